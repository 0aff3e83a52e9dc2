/-! ===== methods as functions, with their contracts (printed by program) ===== -/
def bX9_chain_62 (u : Mm) (s0 : Int32) : Option (Int32 × Mm) := some (s0, u)
set_option maxRecDepth 100000 in
set_option maxHeartbeats 4000000 in
theorem pX9_chain_62 {r : Int32} {u' : Mm} (u : Mm) (s0 : Int32) (h : bX9_chain_62 u s0 = some (r, u')) : Eg MX9_chain 2 0 0 (some (.int r), u') 62 [] [.int s0] u := by
  unfold bX9_chain_62 at h
  exact E_iret h dX9_chain_62 rfl
def fX9_chain (u : Mm) (a0 : Nat) (x1 : Int32) (x2 : Int32) (x3 : Int32) : Option (Int32 × Mm) := oK u a0 9 54 (oU (wI u a0 (upd (mI u a0) 0 0)) (fun u1 => oB (fX9_isEight u1 x1) (fun v2 u3 => (if (v2 : Int32) = 0 then some ((-1), u3) else oB (fX9_isSide u3 x2) (fun v4 u5 => (if (v4 : Int32) = 0 then some ((-1), u5) else oB (fX9_in u5 (Int32.toInt64 x3) 0 1) (fun v6 u7 => (if (v6 : Int32) = 0 then some ((-1), u7) else oR u7 a0 9 (oB (fX9_chainOf u7 a0 x1 x2 0) (fun v8 u9 => (if (x3 : Int32) = 0 then oB (fX9_sizeOf u9 v8) (fun v10 u11 => bX9_chain_62 u11 v10) else (if 0 ≤ (v8 : Int32) then bX9_chain_62 u9 0 else bX9_chain_62 u9 1))))))))))))
set_option maxRecDepth 100000 in
set_option maxHeartbeats 4000000 in
theorem tX9_chain {u : Mm} {a0 : Nat} {x1 : Int32} {x2 : Int32} {x3 : Int32} {r : Int32} {u' : Mm} (h : fX9_chain u a0 x1 x2 x3 = some (r, u')) : Ev 2 MX9_chain 0 0 [.ref a0, .int x1, .int x2, .int x3] u (some (.int r), u') := by
  refine Ev.of (by decide +kernel) (Nat.le_of_ble_eq_true rfl) (show Eg MX9_chain 2 0 0 (some (.int r), u') 0 [(0, .ref a0), (1, .int x1), (2, .int x2), (3, .int x3)] [] u from ?_)
  unfold fX9_chain at h
  refine E_aload_n dX9_chain_0 rfl rfl ?_
  refine E_iconst (v := 0) dX9_chain_1 (by decide) ?_
  refine E_putI h dX9_chain_2 cf9 lk_X9_134 (by decide) (Or.inl rfl) rfl (fun h => ?_)
  refine E_oU h (fun u1 h => ?_)
  refine E_iload_n dX9_chain_5 rfl rfl ?_
  refine F_Si h (fun a m e => tX9_isEight e) dX9_chain_6 hm_X9_isEight hs_X9_isEight ln_X9_171 rfl rfl (Nat.le_of_ble_eq_true rfl) (Nat.le_of_ble_eq_true rfl) (kc' := 0) (ks' := 0) rfl rfl (fun v2 u3 h => ?_)
  refine E_if_eq (tgt := 29) h dX9_chain_9 (by decide) (fun h => ?_) (fun h => ?_)
  · refine E_iconst (v := (-1)) dX9_chain_29 (by decide) ?_
    exact E_iret h dX9_chain_30 rfl
  · refine E_iload_n dX9_chain_12 rfl rfl ?_
    refine F_Si h (fun a m e => tX9_isSide e) dX9_chain_13 hm_X9_isSide hs_X9_isSide ln_X9_167 rfl rfl (Nat.le_of_ble_eq_true rfl) (Nat.le_of_ble_eq_true rfl) (kc' := 0) (ks' := 0) rfl rfl (fun v4 u5 h => ?_)
    refine E_if_eq (tgt := 29) h dX9_chain_16 (by decide) (fun h => ?_) (fun h => ?_)
    · refine E_iconst (v := (-1)) dX9_chain_29 (by decide) ?_
      exact E_iret h dX9_chain_30 rfl
    · refine E_iload_n dX9_chain_19 rfl rfl ?_
      refine E_i2l dX9_chain_20 ?_
      refine E_lconst (v := 0) dX9_chain_21 (by decide) ?_
      refine E_lconst (v := 1) dX9_chain_22 (by decide) ?_
      refine F_Si h (fun a m e => tX9_in e) dX9_chain_23 hm_X9_in hs_X9_in ln_X9_154 rfl rfl (Nat.le_of_ble_eq_true rfl) (Nat.le_of_ble_eq_true rfl) (kc' := 0) (ks' := 0) rfl rfl (fun v6 u7 h => ?_)
      refine E_if_ne (tgt := 31) h dX9_chain_26 (by decide) (fun h => ?_) (fun h => ?_)
      · refine E_aload_n dX9_chain_31 rfl rfl ?_
        refine E_iload_n dX9_chain_32 rfl rfl ?_
        refine E_iload_n dX9_chain_33 rfl rfl ?_
        refine E_iconst (v := 0) dX9_chain_34 (by decide) ?_
        refine F_Vi h (fun a m e => tX9_chainOf e) dX9_chain_35 hm_X9_chainOf hv_X9_chainOf ln_X9_460 rfl rfl (Nat.le_of_ble_eq_true rfl) (Nat.le_of_ble_eq_true rfl) (kc' := 0) (ks' := 0) rfl rfl (fun v8 u9 h => ?_)
        refine E_istore (l' := [(4, .int v8), (0, .ref a0), (1, .int x1), (2, .int x2), (3, .int x3)]) dX9_chain_38 (Nat.le_of_ble_eq_true rfl) rfl ?_
        refine E_iload_n dX9_chain_40 rfl rfl ?_
        refine E_if_ne (tgt := 52) h dX9_chain_41 (by decide) (fun h => ?_) (fun h => ?_)
        · refine E_iload dX9_chain_52 rfl ?_
          refine E_if_ge (tgt := 61) h dX9_chain_54 (by decide) (fun h => ?_) (fun h => ?_)
          · refine E_iconst (v := 0) dX9_chain_61 (by decide) ?_
            refine Eg.pick [] rfl ?_
            exact pX9_chain_62 _ _ h
          · refine E_iconst (v := 1) dX9_chain_57 (by decide) ?_
            refine E_goto (tgt := 62) dX9_chain_58 (by decide) ?_
            refine Eg.pick [] rfl ?_
            exact pX9_chain_62 _ _ h
        · refine E_iload dX9_chain_44 rfl ?_
          refine F_Si h (fun a m e => tX9_sizeOf e) dX9_chain_46 hm_X9_sizeOf hs_X9_sizeOf ln_X9_423 rfl rfl (Nat.le_of_ble_eq_true rfl) (Nat.le_of_ble_eq_true rfl) (kc' := 0) (ks' := 0) rfl rfl (fun v10 u11 h => ?_)
          refine E_goto (tgt := 62) dX9_chain_49 (by decide) ?_
          refine Eg.pick [] rfl ?_
          exact pX9_chain_62 _ _ h
      · refine E_iconst (v := (-1)) dX9_chain_29 (by decide) ?_
        exact E_iret h dX9_chain_30 rfl
def bX9_isStill_39 (k4 : Mm → Nat → Int32 → Int32 → Int32 → Option (Int32 × Mm)) (u : Mm) (a0 : Nat) (x1 : Int32) (x3 : Int32) (s0 : Int32) : Option (Int32 × Mm) := k4 u a0 x1 s0 (x3 + 1)
set_option maxRecDepth 100000 in
set_option maxHeartbeats 4000000 in
theorem pX9_isStill_39 {r : Int32} {u' : Mm} {k4 : Mm → Nat → Int32 → Int32 → Int32 → Option (Int32 × Mm)} (hk4 : ∀ (u : Mm) (a0 : Nat) (x1 : Int32) (x2 : Int32) (x3 : Int32), k4 u a0 x1 x2 x3 = some (r, u') → Eg MX9_isStill 2 0 0 (some (.int r), u') 4 [(0, .ref a0), (1, .int x1), (2, .int x2), (3, .int x3)] [] u) (u : Mm) (a0 : Nat) (x1 : Int32) (x3 : Int32) (s0 : Int32) (h : bX9_isStill_39 k4 u a0 x1 x3 s0 = some (r, u')) : Eg MX9_isStill 2 0 0 (some (.int r), u') 39 [(0, .ref a0), (1, .int x1), (3, .int x3)] [.int s0] u := by
  unfold bX9_isStill_39 at h
  refine E_istore_n (l' := [(2, .int s0), (0, .ref a0), (1, .int x1), (3, .int x3)]) dX9_isStill_39 rfl (Nat.le_of_ble_eq_true rfl) rfl ?_
  refine E_iinc (j := 3) (v := x3 + 1) (l' := [(3, .int (x3 + 1)), (2, .int s0), (0, .ref a0), (1, .int x1)]) dX9_isStill_40 rfl (addI (by decide)) (Nat.le_of_ble_eq_true rfl) rfl ?_
  refine E_goto (tgt := 4) dX9_isStill_43 (by decide) ?_
  refine Eg.pick [2, 3, 1, 0] rfl ?_
  exact hk4 _ _ _ _ _ h
def bX9_isStill_38 (k4 : Mm → Nat → Int32 → Int32 → Int32 → Option (Int32 × Mm)) (u : Mm) (a0 : Nat) (x1 : Int32) (x3 : Int32) : Option (Int32 × Mm) := bX9_isStill_39 k4 u a0 x1 x3 0
set_option maxRecDepth 100000 in
set_option maxHeartbeats 4000000 in
theorem pX9_isStill_38 {r : Int32} {u' : Mm} {k4 : Mm → Nat → Int32 → Int32 → Int32 → Option (Int32 × Mm)} (hk4 : ∀ (u : Mm) (a0 : Nat) (x1 : Int32) (x2 : Int32) (x3 : Int32), k4 u a0 x1 x2 x3 = some (r, u') → Eg MX9_isStill 2 0 0 (some (.int r), u') 4 [(0, .ref a0), (1, .int x1), (2, .int x2), (3, .int x3)] [] u) (u : Mm) (a0 : Nat) (x1 : Int32) (x3 : Int32) (h : bX9_isStill_38 k4 u a0 x1 x3 = some (r, u')) : Eg MX9_isStill 2 0 0 (some (.int r), u') 38 [(0, .ref a0), (1, .int x1), (3, .int x3)] [] u := by
  unfold bX9_isStill_38 at h
  refine E_iconst (v := 0) dX9_isStill_38 (by decide) ?_
  refine Eg.pick [0, 1, 2] rfl ?_
  exact pX9_isStill_39 hk4 _ _ _ _ _ h
def bX9_isStill_4 (k4 : Mm → Nat → Int32 → Int32 → Int32 → Option (Int32 × Mm)) (u : Mm) (a0 : Nat) (x1 : Int32) (x2 : Int32) (x3 : Int32) : Option (Int32 × Mm) := (if (8 : Int32) ≤ x3 then oZ x2 (some (x2, u)) else (if (x2 : Int32) = 0 then bX9_isStill_38 k4 u a0 x1 x3 else oR u a0 9 (oB (fX9_chainOf u a0 x3 0 x1) (fun v1 u2 => (if (v1 : Int32) ≤ 0 then bX9_isStill_38 k4 u2 a0 x1 x3 else oR u2 a0 9 (oB (fX9_chainOf u2 a0 x3 1 x1) (fun v3 u4 => (if (v3 : Int32) ≤ 0 then bX9_isStill_38 k4 u4 a0 x1 x3 else bX9_isStill_39 k4 u4 a0 x1 x3 1))))))))
set_option maxRecDepth 100000 in
set_option maxHeartbeats 4000000 in
theorem pX9_isStill_4 {r : Int32} {u' : Mm} {k4 : Mm → Nat → Int32 → Int32 → Int32 → Option (Int32 × Mm)} (hk4 : ∀ (u : Mm) (a0 : Nat) (x1 : Int32) (x2 : Int32) (x3 : Int32), k4 u a0 x1 x2 x3 = some (r, u') → Eg MX9_isStill 2 0 0 (some (.int r), u') 4 [(0, .ref a0), (1, .int x1), (2, .int x2), (3, .int x3)] [] u) (u : Mm) (a0 : Nat) (x1 : Int32) (x2 : Int32) (x3 : Int32) (h : bX9_isStill_4 k4 u a0 x1 x2 x3 = some (r, u')) : Eg MX9_isStill 2 0 0 (some (.int r), u') 4 [(0, .ref a0), (1, .int x1), (2, .int x2), (3, .int x3)] [] u := by
  unfold bX9_isStill_4 at h
  refine E_iload_n dX9_isStill_4 rfl rfl ?_
  refine E_bipush (v := 8) dX9_isStill_5 (by decide) ?_
  refine E_ic_ge (tgt := 46) h dX9_isStill_7 (by decide) (fun h => ?_) (fun h => ?_)
  · refine E_iload_n dX9_isStill_46 rfl rfl ?_
    exact E_zret h dX9_isStill_47 rfl
  · refine E_iload_n dX9_isStill_10 rfl rfl ?_
    refine E_if_eq (tgt := 38) h dX9_isStill_11 (by decide) (fun h => ?_) (fun h => ?_)
    · refine Eg.pick [0, 1, 3] rfl ?_
      exact pX9_isStill_38 hk4 _ _ _ _ h
    · refine E_aload_n dX9_isStill_14 rfl rfl ?_
      refine E_iload_n dX9_isStill_15 rfl rfl ?_
      refine E_iconst (v := 0) dX9_isStill_16 (by decide) ?_
      refine E_iload_n dX9_isStill_17 rfl rfl ?_
      refine F_Vi h (fun a m e => tX9_chainOf e) dX9_isStill_18 hm_X9_chainOf hv_X9_chainOf ln_X9_460 rfl rfl (Nat.le_of_ble_eq_true rfl) (Nat.le_of_ble_eq_true rfl) (kc' := 0) (ks' := 0) rfl rfl (fun v1 u2 h => ?_)
      refine E_if_le (tgt := 38) h dX9_isStill_21 (by decide) (fun h => ?_) (fun h => ?_)
      · refine Eg.pick [0, 1, 3] rfl ?_
        exact pX9_isStill_38 hk4 _ _ _ _ h
      · refine E_aload_n dX9_isStill_24 rfl rfl ?_
        refine E_iload_n dX9_isStill_25 rfl rfl ?_
        refine E_iconst (v := 1) dX9_isStill_26 (by decide) ?_
        refine E_iload_n dX9_isStill_27 rfl rfl ?_
        refine F_Vi h (fun a m e => tX9_chainOf e) dX9_isStill_28 hm_X9_chainOf hv_X9_chainOf ln_X9_460 rfl rfl (Nat.le_of_ble_eq_true rfl) (Nat.le_of_ble_eq_true rfl) (kc' := 0) (ks' := 0) rfl rfl (fun v3 u4 h => ?_)
        refine E_if_le (tgt := 38) h dX9_isStill_31 (by decide) (fun h => ?_) (fun h => ?_)
        · refine Eg.pick [0, 1, 3] rfl ?_
          exact pX9_isStill_38 hk4 _ _ _ _ h
        · refine E_iconst (v := 1) dX9_isStill_34 (by decide) ?_
          refine E_goto (tgt := 39) dX9_isStill_35 (by decide) ?_
          refine Eg.pick [0, 1, 3] rfl ?_
          exact pX9_isStill_39 hk4 _ _ _ _ _ h
def rX9_isStill_4 : Nat → Mm → Nat → Int32 → Int32 → Int32 → Option (Int32 × Mm)
  | 0, _, _, _, _, _ => none
  | n + 1, u, a0, x1, x2, x3 => bX9_isStill_4 (rX9_isStill_4 n) u a0 x1 x2 x3
theorem prX9_isStill_4 {r : Int32} {u' : Mm} : ∀ (n : Nat) (u : Mm) (a0 : Nat) (x1 : Int32) (x2 : Int32) (x3 : Int32), rX9_isStill_4 n u a0 x1 x2 x3 = some (r, u') → Eg MX9_isStill 2 0 0 (some (.int r), u') 4 [(0, .ref a0), (1, .int x1), (2, .int x2), (3, .int x3)] [] u
  | 0, _, _, _, _, _, h => by cases h
  | n + 1, u, a0, x1, x2, x3, h => pX9_isStill_4 (prX9_isStill_4 n) u a0 x1 x2 x3 h
def fX9_isStill (u : Mm) (a0 : Nat) (x1 : Int32) : Option (Int32 × Mm) := rX9_isStill_4 hwF u a0 x1 1 0
set_option maxRecDepth 100000 in
set_option maxHeartbeats 4000000 in
theorem tX9_isStill {u : Mm} {a0 : Nat} {x1 : Int32} {r : Int32} {u' : Mm} (h : fX9_isStill u a0 x1 = some (r, u')) : Ev 2 MX9_isStill 0 0 [.ref a0, .int x1] u (some (.int r), u') := by
  refine Ev.of (by decide +kernel) (Nat.le_of_ble_eq_true rfl) (show Eg MX9_isStill 2 0 0 (some (.int r), u') 0 [(0, .ref a0), (1, .int x1)] [] u from ?_)
  unfold fX9_isStill at h
  refine E_iconst (v := 1) dX9_isStill_0 (by decide) ?_
  refine E_istore_n (l' := [(2, .int 1), (0, .ref a0), (1, .int x1)]) dX9_isStill_1 rfl (Nat.le_of_ble_eq_true rfl) rfl ?_
  refine E_iconst (v := 0) dX9_isStill_2 (by decide) ?_
  refine E_istore_n (l' := [(3, .int 0), (2, .int 1), (0, .ref a0), (1, .int x1)]) dX9_isStill_3 rfl (Nat.le_of_ble_eq_true rfl) rfl ?_
  refine Eg.pick [2, 3, 1, 0] rfl ?_
  exact prX9_isStill_4 _ _ _ _ _ _ h
def bX9_stilled_101 (u : Mm) (s0 : Int32) : Option (Int32 × Mm) := some (s0, u)
set_option maxRecDepth 100000 in
set_option maxHeartbeats 4000000 in
theorem pX9_stilled_101 {r : Int32} {u' : Mm} (u : Mm) (s0 : Int32) (h : bX9_stilled_101 u s0 = some (r, u')) : Eg MX9_stilled 3 0 0 (some (.int r), u') 101 [] [.int s0] u := by
  unfold bX9_stilled_101 at h
  exact E_iret h dX9_stilled_101 rfl
def bX9_stilled_85 (k26 : Mm → Nat → Int32 → Int32 → Int32 → Int32 → Option (Int32 × Mm)) (u : Mm) (a0 : Nat) (x1 : Int32) (x3 : Int32) (x4 : Int32) (s0 : Int32) : Option (Int32 × Mm) := k26 u a0 x1 s0 x3 (x4 + 1)
set_option maxRecDepth 100000 in
set_option maxHeartbeats 4000000 in
theorem pX9_stilled_85 {r : Int32} {u' : Mm} {k26 : Mm → Nat → Int32 → Int32 → Int32 → Int32 → Option (Int32 × Mm)} (hk26 : ∀ (u : Mm) (a0 : Nat) (x1 : Int32) (x2 : Int32) (x3 : Int32) (x4 : Int32), k26 u a0 x1 x2 x3 x4 = some (r, u') → Eg MX9_stilled 3 0 0 (some (.int r), u') 26 [(0, .ref a0), (1, .int x1), (2, .int x2), (3, .int x3), (4, .int x4)] [] u) (u : Mm) (a0 : Nat) (x1 : Int32) (x3 : Int32) (x4 : Int32) (s0 : Int32) (h : bX9_stilled_85 k26 u a0 x1 x3 x4 s0 = some (r, u')) : Eg MX9_stilled 3 0 0 (some (.int r), u') 85 [(0, .ref a0), (1, .int x1), (3, .int x3), (4, .int x4)] [.int s0] u := by
  unfold bX9_stilled_85 at h
  refine E_istore_n (l' := [(2, .int s0), (0, .ref a0), (1, .int x1), (3, .int x3), (4, .int x4)]) dX9_stilled_85 rfl (Nat.le_of_ble_eq_true rfl) rfl ?_
  refine E_iinc (j := 4) (v := x4 + 1) (l' := [(4, .int (x4 + 1)), (2, .int s0), (0, .ref a0), (1, .int x1), (3, .int x3)]) dX9_stilled_86 rfl (addI (by decide)) (Nat.le_of_ble_eq_true rfl) rfl ?_
  refine E_goto (tgt := 26) dX9_stilled_89 (by decide) ?_
  refine Eg.pick [2, 3, 1, 4, 0] rfl ?_
  exact hk26 _ _ _ _ _ _ h
def bX9_stilled_70 (k26 : Mm → Nat → Int32 → Int32 → Int32 → Int32 → Option (Int32 × Mm)) (u : Mm) (a0 : Nat) (x1 : Int32) (x2 : Int32) (x4 : Int32) (x5 : Int32) (s0 : Int32) : Option (Int32 × Mm) := (if (x5 : Int32) = 0 then bX9_stilled_85 k26 u a0 x1 s0 x4 x2 else oB (fX9_ones u x4) (fun v6 u7 => bX9_stilled_85 k26 u7 a0 x1 s0 x4 v6))
set_option maxRecDepth 100000 in
set_option maxHeartbeats 4000000 in
theorem pX9_stilled_70 {r : Int32} {u' : Mm} {k26 : Mm → Nat → Int32 → Int32 → Int32 → Int32 → Option (Int32 × Mm)} (hk26 : ∀ (u : Mm) (a0 : Nat) (x1 : Int32) (x2 : Int32) (x3 : Int32) (x4 : Int32), k26 u a0 x1 x2 x3 x4 = some (r, u') → Eg MX9_stilled 3 0 0 (some (.int r), u') 26 [(0, .ref a0), (1, .int x1), (2, .int x2), (3, .int x3), (4, .int x4)] [] u) (u : Mm) (a0 : Nat) (x1 : Int32) (x2 : Int32) (x4 : Int32) (x5 : Int32) (s0 : Int32) (h : bX9_stilled_70 k26 u a0 x1 x2 x4 x5 s0 = some (r, u')) : Eg MX9_stilled 3 0 0 (some (.int r), u') 70 [(0, .ref a0), (1, .int x1), (2, .int x2), (4, .int x4), (5, .int x5)] [.int s0] u := by
  unfold bX9_stilled_70 at h
  refine E_istore_n (l' := [(3, .int s0), (0, .ref a0), (1, .int x1), (2, .int x2), (4, .int x4), (5, .int x5)]) dX9_stilled_70 rfl (Nat.le_of_ble_eq_true rfl) rfl ?_
  refine E_iload dX9_stilled_71 rfl ?_
  refine E_if_eq (tgt := 84) h dX9_stilled_73 (by decide) (fun h => ?_) (fun h => ?_)
  · refine E_iload_n dX9_stilled_84 rfl rfl ?_
    refine Eg.pick [1, 2, 0, 4] rfl ?_
    exact pX9_stilled_85 hk26 _ _ _ _ _ _ h
  · refine E_iload dX9_stilled_76 rfl ?_
    refine F_Si h (fun a m e => tX9_ones e) dX9_stilled_78 hm_X9_ones hs_X9_ones ln_X9_446 rfl rfl (Nat.le_of_ble_eq_true rfl) (Nat.le_of_ble_eq_true rfl) (kc' := 0) (ks' := 0) rfl rfl (fun v6 u7 h => ?_)
    refine E_goto (tgt := 85) dX9_stilled_81 (by decide) ?_
    refine Eg.pick [1, 2, 0, 4] rfl ?_
    exact pX9_stilled_85 hk26 _ _ _ _ _ _ h
def bX9_stilled_57 (k26 : Mm → Nat → Int32 → Int32 → Int32 → Int32 → Option (Int32 × Mm)) (u : Mm) (a0 : Nat) (x1 : Int32) (x2 : Int32) (x3 : Int32) (x4 : Int32) (s0 : Int32) : Option (Int32 × Mm) := (if (s0 : Int32) = 0 then bX9_stilled_70 k26 u a0 x1 x2 x4 s0 x3 else bX9_stilled_70 k26 u a0 x1 x2 x4 s0 x4)
set_option maxRecDepth 100000 in
set_option maxHeartbeats 4000000 in
theorem pX9_stilled_57 {r : Int32} {u' : Mm} {k26 : Mm → Nat → Int32 → Int32 → Int32 → Int32 → Option (Int32 × Mm)} (hk26 : ∀ (u : Mm) (a0 : Nat) (x1 : Int32) (x2 : Int32) (x3 : Int32) (x4 : Int32), k26 u a0 x1 x2 x3 x4 = some (r, u') → Eg MX9_stilled 3 0 0 (some (.int r), u') 26 [(0, .ref a0), (1, .int x1), (2, .int x2), (3, .int x3), (4, .int x4)] [] u) (u : Mm) (a0 : Nat) (x1 : Int32) (x2 : Int32) (x3 : Int32) (x4 : Int32) (s0 : Int32) (h : bX9_stilled_57 k26 u a0 x1 x2 x3 x4 s0 = some (r, u')) : Eg MX9_stilled 3 0 0 (some (.int r), u') 57 [(0, .ref a0), (1, .int x1), (2, .int x2), (3, .int x3), (4, .int x4)] [.int s0] u := by
  unfold bX9_stilled_57 at h
  refine E_istore (l' := [(5, .int s0), (0, .ref a0), (1, .int x1), (2, .int x2), (3, .int x3), (4, .int x4)]) dX9_stilled_57 (Nat.le_of_ble_eq_true rfl) rfl ?_
  refine E_iload dX9_stilled_59 rfl ?_
  refine E_if_eq (tgt := 69) h dX9_stilled_61 (by decide) (fun h => ?_) (fun h => ?_)
  · refine E_iload_n dX9_stilled_69 rfl rfl ?_
    refine Eg.pick [1, 2, 3, 5, 0] rfl ?_
    exact pX9_stilled_70 hk26 _ _ _ _ _ _ _ h
  · refine E_iload dX9_stilled_64 rfl ?_
    refine E_goto (tgt := 70) dX9_stilled_66 (by decide) ?_
    refine Eg.pick [1, 2, 3, 5, 0] rfl ?_
    exact pX9_stilled_70 hk26 _ _ _ _ _ _ _ h
def bX9_stilled_56 (k26 : Mm → Nat → Int32 → Int32 → Int32 → Int32 → Option (Int32 × Mm)) (u : Mm) (a0 : Nat) (x1 : Int32) (x2 : Int32) (x3 : Int32) (x4 : Int32) : Option (Int32 × Mm) := bX9_stilled_57 k26 u a0 x1 x2 x3 x4 0
set_option maxRecDepth 100000 in
set_option maxHeartbeats 4000000 in
theorem pX9_stilled_56 {r : Int32} {u' : Mm} {k26 : Mm → Nat → Int32 → Int32 → Int32 → Int32 → Option (Int32 × Mm)} (hk26 : ∀ (u : Mm) (a0 : Nat) (x1 : Int32) (x2 : Int32) (x3 : Int32) (x4 : Int32), k26 u a0 x1 x2 x3 x4 = some (r, u') → Eg MX9_stilled 3 0 0 (some (.int r), u') 26 [(0, .ref a0), (1, .int x1), (2, .int x2), (3, .int x3), (4, .int x4)] [] u) (u : Mm) (a0 : Nat) (x1 : Int32) (x2 : Int32) (x3 : Int32) (x4 : Int32) (h : bX9_stilled_56 k26 u a0 x1 x2 x3 x4 = some (r, u')) : Eg MX9_stilled 3 0 0 (some (.int r), u') 56 [(0, .ref a0), (1, .int x1), (2, .int x2), (3, .int x3), (4, .int x4)] [] u := by
  unfold bX9_stilled_56 at h
  refine E_iconst (v := 0) dX9_stilled_56 (by decide) ?_
  refine Eg.pick [0, 1, 2, 3, 4] rfl ?_
  exact pX9_stilled_57 hk26 _ _ _ _ _ _ _ h
def bX9_stilled_26 (k26 : Mm → Nat → Int32 → Int32 → Int32 → Int32 → Option (Int32 × Mm)) (u : Mm) (a0 : Nat) (x1 : Int32) (x2 : Int32) (x3 : Int32) (x4 : Int32) : Option (Int32 × Mm) := (if (256 : Int32) ≤ x4 then (if (x1 : Int32) = 0 then bX9_stilled_101 u x2 else bX9_stilled_101 u x3) else oB (fX9_ones u x4) (fun v4 u5 => (if (x2 : Int32) ≤ v4 then bX9_stilled_56 k26 u5 a0 x1 x2 x3 x4 else oR u5 a0 9 (oB (fX9_isStill u5 a0 x4) (fun v8 u9 => (if (v8 : Int32) = 0 then bX9_stilled_56 k26 u9 a0 x1 x2 x3 x4 else bX9_stilled_57 k26 u9 a0 x1 x2 x3 x4 1))))))
set_option maxRecDepth 100000 in
set_option maxHeartbeats 4000000 in
theorem pX9_stilled_26 {r : Int32} {u' : Mm} {k26 : Mm → Nat → Int32 → Int32 → Int32 → Int32 → Option (Int32 × Mm)} (hk26 : ∀ (u : Mm) (a0 : Nat) (x1 : Int32) (x2 : Int32) (x3 : Int32) (x4 : Int32), k26 u a0 x1 x2 x3 x4 = some (r, u') → Eg MX9_stilled 3 0 0 (some (.int r), u') 26 [(0, .ref a0), (1, .int x1), (2, .int x2), (3, .int x3), (4, .int x4)] [] u) (u : Mm) (a0 : Nat) (x1 : Int32) (x2 : Int32) (x3 : Int32) (x4 : Int32) (h : bX9_stilled_26 k26 u a0 x1 x2 x3 x4 = some (r, u')) : Eg MX9_stilled 3 0 0 (some (.int r), u') 26 [(0, .ref a0), (1, .int x1), (2, .int x2), (3, .int x3), (4, .int x4)] [] u := by
  unfold bX9_stilled_26 at h
  refine E_iload dX9_stilled_26 rfl ?_
  refine E_sipush (v := 256) dX9_stilled_28 (by decide) ?_
  refine E_ic_ge (tgt := 92) h dX9_stilled_31 (by decide) (fun h => ?_) (fun h => ?_)
  · refine E_iload_n dX9_stilled_92 rfl rfl ?_
    refine E_if_ne (tgt := 100) h dX9_stilled_93 (by decide) (fun h => ?_) (fun h => ?_)
    · refine E_iload_n dX9_stilled_100 rfl rfl ?_
      refine Eg.pick [] rfl ?_
      exact pX9_stilled_101 _ _ h
    · refine E_iload_n dX9_stilled_96 rfl rfl ?_
      refine E_goto (tgt := 101) dX9_stilled_97 (by decide) ?_
      refine Eg.pick [] rfl ?_
      exact pX9_stilled_101 _ _ h
  · refine E_iload dX9_stilled_34 rfl ?_
    refine F_Si h (fun a m e => tX9_ones e) dX9_stilled_36 hm_X9_ones hs_X9_ones ln_X9_446 rfl rfl (Nat.le_of_ble_eq_true rfl) (Nat.le_of_ble_eq_true rfl) (kc' := 0) (ks' := 0) rfl rfl (fun v4 u5 h => ?_)
    refine E_iload_n dX9_stilled_39 rfl rfl ?_
    refine E_ic_ge (tgt := 56) h dX9_stilled_40 (by decide) (fun h => ?_) (fun h => ?_)
    · refine Eg.pick [0, 1, 2, 3, 4] rfl ?_
      exact pX9_stilled_56 hk26 _ _ _ _ _ _ h
    · refine E_aload_n dX9_stilled_43 rfl rfl ?_
      refine E_iload dX9_stilled_44 rfl ?_
      refine F_Vi h (fun a m e => tX9_isStill e) dX9_stilled_46 hm_X9_isStill hv_X9_isStill ln_X9_463 rfl rfl (Nat.le_of_ble_eq_true rfl) (Nat.le_of_ble_eq_true rfl) (kc' := 0) (ks' := 0) rfl rfl (fun v8 u9 h => ?_)
      refine E_if_eq (tgt := 56) h dX9_stilled_49 (by decide) (fun h => ?_) (fun h => ?_)
      · refine Eg.pick [0, 1, 2, 3, 4] rfl ?_
        exact pX9_stilled_56 hk26 _ _ _ _ _ _ h
      · refine E_iconst (v := 1) dX9_stilled_52 (by decide) ?_
        refine E_goto (tgt := 57) dX9_stilled_53 (by decide) ?_
        refine Eg.pick [0, 1, 2, 3, 4] rfl ?_
        exact pX9_stilled_57 hk26 _ _ _ _ _ _ _ h
def rX9_stilled_26 : Nat → Mm → Nat → Int32 → Int32 → Int32 → Int32 → Option (Int32 × Mm)
  | 0, _, _, _, _, _, _ => none
  | n + 1, u, a0, x1, x2, x3, x4 => bX9_stilled_26 (rX9_stilled_26 n) u a0 x1 x2 x3 x4
theorem prX9_stilled_26 {r : Int32} {u' : Mm} : ∀ (n : Nat) (u : Mm) (a0 : Nat) (x1 : Int32) (x2 : Int32) (x3 : Int32) (x4 : Int32), rX9_stilled_26 n u a0 x1 x2 x3 x4 = some (r, u') → Eg MX9_stilled 3 0 0 (some (.int r), u') 26 [(0, .ref a0), (1, .int x1), (2, .int x2), (3, .int x3), (4, .int x4)] [] u
  | 0, _, _, _, _, _, _, h => by cases h
  | n + 1, u, a0, x1, x2, x3, x4, h => pX9_stilled_26 (prX9_stilled_26 n) u a0 x1 x2 x3 x4 h
def fX9_stilled (u : Mm) (a0 : Nat) (x1 : Int32) : Option (Int32 × Mm) := oK u a0 9 54 (oU (wI u a0 (upd (mI u a0) 0 0)) (fun u1 => oB (fX9_in u1 (Int32.toInt64 x1) 0 1) (fun v2 u3 => (if (v2 : Int32) = 0 then some ((-1), u3) else rX9_stilled_26 hwF u3 a0 x1 100000000 ((-1)) 0))))
set_option maxRecDepth 100000 in
set_option maxHeartbeats 4000000 in
theorem tX9_stilled {u : Mm} {a0 : Nat} {x1 : Int32} {r : Int32} {u' : Mm} (h : fX9_stilled u a0 x1 = some (r, u')) : Ev 3 MX9_stilled 0 0 [.ref a0, .int x1] u (some (.int r), u') := by
  refine Ev.of (by decide +kernel) (Nat.le_of_ble_eq_true rfl) (show Eg MX9_stilled 3 0 0 (some (.int r), u') 0 [(0, .ref a0), (1, .int x1)] [] u from ?_)
  unfold fX9_stilled at h
  refine E_aload_n dX9_stilled_0 rfl rfl ?_
  refine E_iconst (v := 0) dX9_stilled_1 (by decide) ?_
  refine E_putI h dX9_stilled_2 cf9 lk_X9_134 (by decide) (Or.inl rfl) rfl (fun h => ?_)
  refine E_oU h (fun u1 h => ?_)
  refine E_iload_n dX9_stilled_5 rfl rfl ?_
  refine E_i2l dX9_stilled_6 ?_
  refine E_lconst (v := 0) dX9_stilled_7 (by decide) ?_
  refine E_lconst (v := 1) dX9_stilled_8 (by decide) ?_
  refine F_Si h (fun a m e => tX9_in e) dX9_stilled_9 hm_X9_in hs_X9_in ln_X9_154 rfl rfl (Nat.le_of_ble_eq_true rfl) (Nat.le_of_ble_eq_true rfl) (kc' := 0) (ks' := 0) rfl rfl (fun v2 u3 h => ?_)
  refine E_if_ne (tgt := 17) h dX9_stilled_12 (by decide) (fun h => ?_) (fun h => ?_)
  · refine E_ldcw dX9_stilled_17 rfl cn_X9_445 ?_
    refine E_istore_n (l' := [(2, .int 100000000), (0, .ref a0), (1, .int x1)]) dX9_stilled_20 rfl (Nat.le_of_ble_eq_true rfl) rfl ?_
    refine E_iconst (v := (-1)) dX9_stilled_21 (by decide) ?_
    refine E_istore_n (l' := [(3, .int ((-1))), (2, .int 100000000), (0, .ref a0), (1, .int x1)]) dX9_stilled_22 rfl (Nat.le_of_ble_eq_true rfl) rfl ?_
    refine E_iconst (v := 0) dX9_stilled_23 (by decide) ?_
    refine E_istore (l' := [(4, .int 0), (3, .int ((-1))), (2, .int 100000000), (0, .ref a0), (1, .int x1)]) dX9_stilled_24 (Nat.le_of_ble_eq_true rfl) rfl ?_
    refine Eg.pick [3, 4, 2, 1, 0] rfl ?_
    exact prX9_stilled_26 _ _ _ _ _ _ _ h
  · refine E_iconst (v := (-1)) dX9_stilled_15 (by decide) ?_
    exact E_iret h dX9_stilled_16 rfl
def bX9_pricesOf_29 (k4 : Mm → Nat → Int32 → Int32 → Int32 → Option (Int32 × Mm)) (u : Mm) (a0 : Nat) (x1 : Int32) (x3 : Int32) (s0 : Int32) (s1 : Int32) : Option (Int32 × Mm) := oI (s1 + s0) (fun v3 => k4 u a0 x1 v3 (x3 + 1))
set_option maxRecDepth 100000 in
set_option maxHeartbeats 4000000 in
theorem pX9_pricesOf_29 {r : Int32} {u' : Mm} {k4 : Mm → Nat → Int32 → Int32 → Int32 → Option (Int32 × Mm)} (hk4 : ∀ (u : Mm) (a0 : Nat) (x1 : Int32) (x2 : Int32) (x3 : Int32), k4 u a0 x1 x2 x3 = some (r, u') → Eg MX9_pricesOf 1 0 0 (some (.int r), u') 4 [(0, .ref a0), (1, .int x1), (2, .int x2), (3, .int x3)] [] u) (u : Mm) (a0 : Nat) (x1 : Int32) (x3 : Int32) (s0 : Int32) (s1 : Int32) (h : bX9_pricesOf_29 k4 u a0 x1 x3 s0 s1 = some (r, u')) : Eg MX9_pricesOf 1 0 0 (some (.int r), u') 29 [(0, .ref a0), (1, .int x1), (3, .int x3)] [.int s0, .int s1] u := by
  unfold bX9_pricesOf_29 at h
  refine E_iadd dX9_pricesOf_29 ?_
  refine E_oI h (fun v3 h => ?_)
  refine E_istore_n (l' := [(2, .int v3), (0, .ref a0), (1, .int x1), (3, .int x3)]) dX9_pricesOf_30 rfl (Nat.le_of_ble_eq_true rfl) rfl ?_
  refine E_iinc (j := 3) (v := x3 + 1) (l' := [(3, .int (x3 + 1)), (2, .int v3), (0, .ref a0), (1, .int x1)]) dX9_pricesOf_31 rfl (addI (by decide)) (Nat.le_of_ble_eq_true rfl) rfl ?_
  refine E_goto (tgt := 4) dX9_pricesOf_34 (by decide) ?_
  refine Eg.pick [2, 3, 1, 0] rfl ?_
  exact hk4 _ _ _ _ _ h
def bX9_pricesOf_4 (k4 : Mm → Nat → Int32 → Int32 → Int32 → Option (Int32 × Mm)) (u : Mm) (a0 : Nat) (x1 : Int32) (x2 : Int32) (x3 : Int32) : Option (Int32 × Mm) := (if (8 : Int32) ≤ x3 then some (x2, u) else oB (fX9_is u x1 x3) (fun v1 u2 => (if (v1 : Int32) = 0 then bX9_pricesOf_29 k4 u2 a0 x1 x3 0 x2 else oK u2 a0 9 54 (oNn (mR u2 a0 42) (fun e4 => oA u2 e4 10 x3 (oI (mI u2 e4 (Int32.toNatClampNeg x3)) (fun v5 => bX9_pricesOf_29 k4 u2 a0 x1 x3 v5 x2)))))))
set_option maxRecDepth 100000 in
set_option maxHeartbeats 4000000 in
theorem pX9_pricesOf_4 {r : Int32} {u' : Mm} {k4 : Mm → Nat → Int32 → Int32 → Int32 → Option (Int32 × Mm)} (hk4 : ∀ (u : Mm) (a0 : Nat) (x1 : Int32) (x2 : Int32) (x3 : Int32), k4 u a0 x1 x2 x3 = some (r, u') → Eg MX9_pricesOf 1 0 0 (some (.int r), u') 4 [(0, .ref a0), (1, .int x1), (2, .int x2), (3, .int x3)] [] u) (u : Mm) (a0 : Nat) (x1 : Int32) (x2 : Int32) (x3 : Int32) (h : bX9_pricesOf_4 k4 u a0 x1 x2 x3 = some (r, u')) : Eg MX9_pricesOf 1 0 0 (some (.int r), u') 4 [(0, .ref a0), (1, .int x1), (2, .int x2), (3, .int x3)] [] u := by
  unfold bX9_pricesOf_4 at h
  refine E_iload_n dX9_pricesOf_4 rfl rfl ?_
  refine E_bipush (v := 8) dX9_pricesOf_5 (by decide) ?_
  refine E_ic_ge (tgt := 37) h dX9_pricesOf_7 (by decide) (fun h => ?_) (fun h => ?_)
  · refine E_iload_n dX9_pricesOf_37 rfl rfl ?_
    exact E_iret h dX9_pricesOf_38 rfl
  · refine E_iload_n dX9_pricesOf_10 rfl rfl ?_
    refine E_iload_n dX9_pricesOf_11 rfl rfl ?_
    refine E_iload_n dX9_pricesOf_12 rfl rfl ?_
    refine F_Si h (fun a m e => tX9_is e) dX9_pricesOf_13 hm_X9_is hs_X9_is ln_X9_442 rfl rfl (Nat.le_of_ble_eq_true rfl) (Nat.le_of_ble_eq_true rfl) (kc' := 0) (ks' := 0) rfl rfl (fun v1 u2 h => ?_)
    refine E_if_eq (tgt := 28) h dX9_pricesOf_16 (by decide) (fun h => ?_) (fun h => ?_)
    · refine E_iconst (v := 0) dX9_pricesOf_28 (by decide) ?_
      refine Eg.pick [0, 1, 3] rfl ?_
      exact pX9_pricesOf_29 hk4 _ _ _ _ _ _ h
    · refine E_aload_n dX9_pricesOf_19 rfl rfl ?_
      refine E_getA h dX9_pricesOf_20 cf9 lk_X9_111 (by decide) (fun _ _ _ => rfl) (fun e4 h => ?_)
      refine E_iload_n dX9_pricesOf_23 rfl rfl ?_
      refine E_iald h dX9_pricesOf_24 (fun h => ?_)
      refine E_oI h (fun v5 h => ?_)
      refine E_goto (tgt := 29) dX9_pricesOf_25 (by decide) ?_
      refine Eg.pick [0, 1, 3] rfl ?_
      exact pX9_pricesOf_29 hk4 _ _ _ _ _ _ h
def rX9_pricesOf_4 : Nat → Mm → Nat → Int32 → Int32 → Int32 → Option (Int32 × Mm)
  | 0, _, _, _, _, _ => none
  | n + 1, u, a0, x1, x2, x3 => bX9_pricesOf_4 (rX9_pricesOf_4 n) u a0 x1 x2 x3
theorem prX9_pricesOf_4 {r : Int32} {u' : Mm} : ∀ (n : Nat) (u : Mm) (a0 : Nat) (x1 : Int32) (x2 : Int32) (x3 : Int32), rX9_pricesOf_4 n u a0 x1 x2 x3 = some (r, u') → Eg MX9_pricesOf 1 0 0 (some (.int r), u') 4 [(0, .ref a0), (1, .int x1), (2, .int x2), (3, .int x3)] [] u
  | 0, _, _, _, _, _, h => by cases h
  | n + 1, u, a0, x1, x2, x3, h => pX9_pricesOf_4 (prX9_pricesOf_4 n) u a0 x1 x2 x3 h
def fX9_pricesOf (u : Mm) (a0 : Nat) (x1 : Int32) : Option (Int32 × Mm) := rX9_pricesOf_4 hwF u a0 x1 0 0
set_option maxRecDepth 100000 in
set_option maxHeartbeats 4000000 in
theorem tX9_pricesOf {u : Mm} {a0 : Nat} {x1 : Int32} {r : Int32} {u' : Mm} (h : fX9_pricesOf u a0 x1 = some (r, u')) : Ev 1 MX9_pricesOf 0 0 [.ref a0, .int x1] u (some (.int r), u') := by
  refine Ev.of (by decide +kernel) (Nat.le_of_ble_eq_true rfl) (show Eg MX9_pricesOf 1 0 0 (some (.int r), u') 0 [(0, .ref a0), (1, .int x1)] [] u from ?_)
  unfold fX9_pricesOf at h
  refine E_iconst (v := 0) dX9_pricesOf_0 (by decide) ?_
  refine E_istore_n (l' := [(2, .int 0), (0, .ref a0), (1, .int x1)]) dX9_pricesOf_1 rfl (Nat.le_of_ble_eq_true rfl) rfl ?_
  refine E_iconst (v := 0) dX9_pricesOf_2 (by decide) ?_
  refine E_istore_n (l' := [(3, .int 0), (2, .int 0), (0, .ref a0), (1, .int x1)]) dX9_pricesOf_3 rfl (Nat.le_of_ble_eq_true rfl) rfl ?_
  refine Eg.pick [2, 3, 1, 0] rfl ?_
  exact prX9_pricesOf_4 _ _ _ _ _ _ h
def bX9_pushed_242 (u : Mm) (s0 : Int32) : Option (Int32 × Mm) := some (s0, u)
set_option maxRecDepth 100000 in
set_option maxHeartbeats 4000000 in
theorem pX9_pushed_242 {r : Int32} {u' : Mm} (u : Mm) (s0 : Int32) (h : bX9_pushed_242 u s0 = some (r, u')) : Eg MX9_pushed 5 0 0 (some (.int r), u') 242 [] [.int s0] u := by
  unfold bX9_pushed_242 at h
  exact E_iret h dX9_pushed_242 rfl
def bX9_pushed_206 (k114 : Mm → Nat → Int32 → Int32 → Int32 → Int32 → Int32 → Option (Int32 × Mm)) (u : Mm) (a0 : Nat) (x1 : Int32) (x2 : Int32) (x3 : Int32) (x5 : Int32) (s0 : Int32) : Option (Int32 × Mm) := k114 u a0 x1 x2 x3 s0 (x5 + 1)
set_option maxRecDepth 100000 in
set_option maxHeartbeats 4000000 in
theorem pX9_pushed_206 {r : Int32} {u' : Mm} {k114 : Mm → Nat → Int32 → Int32 → Int32 → Int32 → Int32 → Option (Int32 × Mm)} (hk114 : ∀ (u : Mm) (a0 : Nat) (x1 : Int32) (x2 : Int32) (x3 : Int32) (x4 : Int32) (x5 : Int32), k114 u a0 x1 x2 x3 x4 x5 = some (r, u') → Eg MX9_pushed 5 0 0 (some (.int r), u') 114 [(0, .ref a0), (1, .int x1), (2, .int x2), (3, .int x3), (4, .int x4), (5, .int x5)] [] u) (u : Mm) (a0 : Nat) (x1 : Int32) (x2 : Int32) (x3 : Int32) (x5 : Int32) (s0 : Int32) (h : bX9_pushed_206 k114 u a0 x1 x2 x3 x5 s0 = some (r, u')) : Eg MX9_pushed 5 0 0 (some (.int r), u') 206 [(0, .ref a0), (1, .int x1), (2, .int x2), (3, .int x3), (5, .int x5)] [.int s0] u := by
  unfold bX9_pushed_206 at h
  refine E_istore (l' := [(4, .int s0), (0, .ref a0), (1, .int x1), (2, .int x2), (3, .int x3), (5, .int x5)]) dX9_pushed_206 (Nat.le_of_ble_eq_true rfl) rfl ?_
  refine E_iinc (j := 5) (v := x5 + 1) (l' := [(5, .int (x5 + 1)), (4, .int s0), (0, .ref a0), (1, .int x1), (2, .int x2), (3, .int x3)]) dX9_pushed_208 rfl (addI (by decide)) (Nat.le_of_ble_eq_true rfl) rfl ?_
  refine E_goto (tgt := 114) dX9_pushed_211 (by decide) ?_
  refine Eg.pick [2, 3, 4, 5, 1, 0] rfl ?_
  exact hk114 _ _ _ _ _ _ _ h
def bX9_pushed_204 (k114 : Mm → Nat → Int32 → Int32 → Int32 → Int32 → Int32 → Option (Int32 × Mm)) (u : Mm) (a0 : Nat) (x1 : Int32) (x2 : Int32) (x3 : Int32) (x4 : Int32) (x5 : Int32) : Option (Int32 × Mm) := bX9_pushed_206 k114 u a0 x1 x2 x3 x5 x4
set_option maxRecDepth 100000 in
set_option maxHeartbeats 4000000 in
theorem pX9_pushed_204 {r : Int32} {u' : Mm} {k114 : Mm → Nat → Int32 → Int32 → Int32 → Int32 → Int32 → Option (Int32 × Mm)} (hk114 : ∀ (u : Mm) (a0 : Nat) (x1 : Int32) (x2 : Int32) (x3 : Int32) (x4 : Int32) (x5 : Int32), k114 u a0 x1 x2 x3 x4 x5 = some (r, u') → Eg MX9_pushed 5 0 0 (some (.int r), u') 114 [(0, .ref a0), (1, .int x1), (2, .int x2), (3, .int x3), (4, .int x4), (5, .int x5)] [] u) (u : Mm) (a0 : Nat) (x1 : Int32) (x2 : Int32) (x3 : Int32) (x4 : Int32) (x5 : Int32) (h : bX9_pushed_204 k114 u a0 x1 x2 x3 x4 x5 = some (r, u')) : Eg MX9_pushed 5 0 0 (some (.int r), u') 204 [(0, .ref a0), (1, .int x1), (2, .int x2), (3, .int x3), (4, .int x4), (5, .int x5)] [] u := by
  unfold bX9_pushed_204 at h
  refine E_iload dX9_pushed_204 rfl ?_
  refine Eg.pick [0, 1, 2, 3, 5] rfl ?_
  exact pX9_pushed_206 hk114 _ _ _ _ _ _ _ h
def bX9_pushed_199 (k114 : Mm → Nat → Int32 → Int32 → Int32 → Int32 → Int32 → Option (Int32 × Mm)) (u : Mm) (a0 : Nat) (x1 : Int32) (x2 : Int32) (x3 : Int32) (x5 : Int32) : Option (Int32 × Mm) := bX9_pushed_206 k114 u a0 x1 x2 x3 x5 x5
set_option maxRecDepth 100000 in
set_option maxHeartbeats 4000000 in
theorem pX9_pushed_199 {r : Int32} {u' : Mm} {k114 : Mm → Nat → Int32 → Int32 → Int32 → Int32 → Int32 → Option (Int32 × Mm)} (hk114 : ∀ (u : Mm) (a0 : Nat) (x1 : Int32) (x2 : Int32) (x3 : Int32) (x4 : Int32) (x5 : Int32), k114 u a0 x1 x2 x3 x4 x5 = some (r, u') → Eg MX9_pushed 5 0 0 (some (.int r), u') 114 [(0, .ref a0), (1, .int x1), (2, .int x2), (3, .int x3), (4, .int x4), (5, .int x5)] [] u) (u : Mm) (a0 : Nat) (x1 : Int32) (x2 : Int32) (x3 : Int32) (x5 : Int32) (h : bX9_pushed_199 k114 u a0 x1 x2 x3 x5 = some (r, u')) : Eg MX9_pushed 5 0 0 (some (.int r), u') 199 [(0, .ref a0), (1, .int x1), (2, .int x2), (3, .int x3), (5, .int x5)] [] u := by
  unfold bX9_pushed_199 at h
  refine E_iload dX9_pushed_199 rfl ?_
  refine E_goto (tgt := 206) dX9_pushed_201 (by decide) ?_
  refine Eg.pick [0, 1, 2, 3, 4] rfl ?_
  exact pX9_pushed_206 hk114 _ _ _ _ _ _ _ h
def bX9_pushed_154 (k114 : Mm → Nat → Int32 → Int32 → Int32 → Int32 → Int32 → Option (Int32 × Mm)) (u : Mm) (a0 : Nat) (x1 : Int32) (x2 : Int32) (x3 : Int32) (x4 : Int32) (x5 : Int32) (s0 : Int32) : Option (Int32 × Mm) := oB (fX9_ones u x5) (fun v10 u11 => oB (fX9_ones u11 x4) (fun v12 u13 => oI (v10 - v12) (fun v14 => (if (s0 : Int32) = 0 then bX9_pushed_204 k114 u13 a0 x1 x2 x3 x4 x5 else (if 0 < (v14 : Int32) then bX9_pushed_199 k114 u13 a0 x1 x2 x3 x5 else (if (v14 : Int32) = 0 then oR u13 a0 9 (oB (fX9_pricesOf u13 a0 x5) (fun v15 u16 => oR u16 a0 9 (oB (fX9_pricesOf u16 a0 x4) (fun v17 u18 => (if (v17 : Int32) ≤ v15 then bX9_pushed_204 k114 u18 a0 x1 x2 x3 x4 x5 else bX9_pushed_199 k114 u18 a0 x1 x2 x3 x5))))) else bX9_pushed_204 k114 u13 a0 x1 x2 x3 x4 x5))))))
set_option maxRecDepth 100000 in
set_option maxHeartbeats 4000000 in
theorem pX9_pushed_154 {r : Int32} {u' : Mm} {k114 : Mm → Nat → Int32 → Int32 → Int32 → Int32 → Int32 → Option (Int32 × Mm)} (hk114 : ∀ (u : Mm) (a0 : Nat) (x1 : Int32) (x2 : Int32) (x3 : Int32) (x4 : Int32) (x5 : Int32), k114 u a0 x1 x2 x3 x4 x5 = some (r, u') → Eg MX9_pushed 5 0 0 (some (.int r), u') 114 [(0, .ref a0), (1, .int x1), (2, .int x2), (3, .int x3), (4, .int x4), (5, .int x5)] [] u) (u : Mm) (a0 : Nat) (x1 : Int32) (x2 : Int32) (x3 : Int32) (x4 : Int32) (x5 : Int32) (s0 : Int32) (h : bX9_pushed_154 k114 u a0 x1 x2 x3 x4 x5 s0 = some (r, u')) : Eg MX9_pushed 5 0 0 (some (.int r), u') 154 [(0, .ref a0), (1, .int x1), (2, .int x2), (3, .int x3), (4, .int x4), (5, .int x5)] [.int s0] u := by
  unfold bX9_pushed_154 at h
  refine E_istore (l' := [(6, .int s0), (0, .ref a0), (1, .int x1), (2, .int x2), (3, .int x3), (4, .int x4), (5, .int x5)]) dX9_pushed_154 (Nat.le_of_ble_eq_true rfl) rfl ?_
  refine E_iload dX9_pushed_156 rfl ?_
  refine F_Si h (fun a m e => tX9_ones e) dX9_pushed_158 hm_X9_ones hs_X9_ones ln_X9_446 rfl rfl (Nat.le_of_ble_eq_true rfl) (Nat.le_of_ble_eq_true rfl) (kc' := 0) (ks' := 0) rfl rfl (fun v10 u11 h => ?_)
  refine E_iload dX9_pushed_161 rfl ?_
  refine F_Si h (fun a m e => tX9_ones e) dX9_pushed_163 hm_X9_ones hs_X9_ones ln_X9_446 rfl rfl (Nat.le_of_ble_eq_true rfl) (Nat.le_of_ble_eq_true rfl) (kc' := 0) (ks' := 0) rfl rfl (fun v12 u13 h => ?_)
  refine E_isub dX9_pushed_166 ?_
  refine E_oI h (fun v14 h => ?_)
  refine E_istore (l' := [(7, .int v14), (6, .int s0), (0, .ref a0), (1, .int x1), (2, .int x2), (3, .int x3), (4, .int x4), (5, .int x5)]) dX9_pushed_167 (Nat.le_of_ble_eq_true rfl) rfl ?_
  refine E_iload dX9_pushed_169 rfl ?_
  refine E_if_eq (tgt := 204) h dX9_pushed_171 (by decide) (fun h => ?_) (fun h => ?_)
  · refine Eg.pick [2, 3, 4, 5, 6, 7] rfl ?_
    exact pX9_pushed_204 hk114 _ _ _ _ _ _ _ h
  · refine E_iload dX9_pushed_174 rfl ?_
    refine E_if_gt (tgt := 199) h dX9_pushed_176 (by decide) (fun h => ?_) (fun h => ?_)
    · refine Eg.pick [2, 3, 4, 5, 7] rfl ?_
      exact pX9_pushed_199 hk114 _ _ _ _ _ _ h
    · refine E_iload dX9_pushed_179 rfl ?_
      refine E_if_ne (tgt := 204) h dX9_pushed_181 (by decide) (fun h => ?_) (fun h => ?_)
      · refine Eg.pick [2, 3, 4, 5, 6, 7] rfl ?_
        exact pX9_pushed_204 hk114 _ _ _ _ _ _ _ h
      · refine E_aload_n dX9_pushed_184 rfl rfl ?_
        refine E_iload dX9_pushed_185 rfl ?_
        refine F_Vi h (fun a m e => tX9_pricesOf e) dX9_pushed_187 hm_X9_pricesOf hv_X9_pricesOf ln_X9_468 rfl rfl (Nat.le_of_ble_eq_true rfl) (Nat.le_of_ble_eq_true rfl) (kc' := 0) (ks' := 0) rfl rfl (fun v15 u16 h => ?_)
        refine E_aload_n dX9_pushed_190 rfl rfl ?_
        refine E_iload dX9_pushed_191 rfl ?_
        refine F_Vi h (fun a m e => tX9_pricesOf e) dX9_pushed_193 hm_X9_pricesOf hv_X9_pricesOf ln_X9_468 rfl rfl (Nat.le_of_ble_eq_true rfl) (Nat.le_of_ble_eq_true rfl) (kc' := 0) (ks' := 0) rfl rfl (fun v17 u18 h => ?_)
        refine E_ic_ge (tgt := 204) h dX9_pushed_196 (by decide) (fun h => ?_) (fun h => ?_)
        · refine Eg.pick [2, 3, 4, 5, 6, 7] rfl ?_
          exact pX9_pushed_204 hk114 _ _ _ _ _ _ _ h
        · refine Eg.pick [2, 3, 4, 5, 7] rfl ?_
          exact pX9_pushed_199 hk114 _ _ _ _ _ _ h
def bX9_pushed_153 (k114 : Mm → Nat → Int32 → Int32 → Int32 → Int32 → Int32 → Option (Int32 × Mm)) (u : Mm) (a0 : Nat) (x1 : Int32) (x2 : Int32) (x3 : Int32) (x4 : Int32) (x5 : Int32) : Option (Int32 × Mm) := bX9_pushed_154 k114 u a0 x1 x2 x3 x4 x5 0
set_option maxRecDepth 100000 in
set_option maxHeartbeats 4000000 in
theorem pX9_pushed_153 {r : Int32} {u' : Mm} {k114 : Mm → Nat → Int32 → Int32 → Int32 → Int32 → Int32 → Option (Int32 × Mm)} (hk114 : ∀ (u : Mm) (a0 : Nat) (x1 : Int32) (x2 : Int32) (x3 : Int32) (x4 : Int32) (x5 : Int32), k114 u a0 x1 x2 x3 x4 x5 = some (r, u') → Eg MX9_pushed 5 0 0 (some (.int r), u') 114 [(0, .ref a0), (1, .int x1), (2, .int x2), (3, .int x3), (4, .int x4), (5, .int x5)] [] u) (u : Mm) (a0 : Nat) (x1 : Int32) (x2 : Int32) (x3 : Int32) (x4 : Int32) (x5 : Int32) (h : bX9_pushed_153 k114 u a0 x1 x2 x3 x4 x5 = some (r, u')) : Eg MX9_pushed 5 0 0 (some (.int r), u') 153 [(0, .ref a0), (1, .int x1), (2, .int x2), (3, .int x3), (4, .int x4), (5, .int x5)] [] u := by
  unfold bX9_pushed_153 at h
  refine E_iconst (v := 0) dX9_pushed_153 (by decide) ?_
  refine Eg.pick [0, 1, 2, 3, 4, 5] rfl ?_
  exact pX9_pushed_154 hk114 _ _ _ _ _ _ _ _ h
def bX9_pushed_114 (k114 : Mm → Nat → Int32 → Int32 → Int32 → Int32 → Int32 → Option (Int32 × Mm)) (u : Mm) (a0 : Nat) (x1 : Int32) (x2 : Int32) (x3 : Int32) (x4 : Int32) (x5 : Int32) : Option (Int32 × Mm) := (if (256 : Int32) ≤ x5 then (if (x2 : Int32) = 0 then oB (fX9_ones u x4) (fun v8 u9 => bX9_pushed_242 u9 v8) else (if (x2 : Int32) = 1 then oR u a0 9 (oB (fX9_pricesOf u a0 x4) (fun v6 u7 => bX9_pushed_242 u7 v6)) else bX9_pushed_242 u x4)) else (if (x5 &&& (x3 ^^^ ((-1))) : Int32) = 0 then oR u a0 9 (oB (fX9_pricesOf u a0 x5) (fun v19 u20 => oK u20 a0 9 54 (oNn (mR u20 a0 3) (fun e21 => oA u20 e21 10 ((31 : Int32) + x1) (oI (mI u20 e21 (Int32.toNatClampNeg ((31 : Int32) + x1))) (fun v22 => (if (v22 : Int32) < v19 then bX9_pushed_153 k114 u20 a0 x1 x2 x3 x4 x5 else bX9_pushed_154 k114 u20 a0 x1 x2 x3 x4 x5 1))))))) else bX9_pushed_153 k114 u a0 x1 x2 x3 x4 x5))
set_option maxRecDepth 100000 in
set_option maxHeartbeats 4000000 in
theorem pX9_pushed_114 {r : Int32} {u' : Mm} {k114 : Mm → Nat → Int32 → Int32 → Int32 → Int32 → Int32 → Option (Int32 × Mm)} (hk114 : ∀ (u : Mm) (a0 : Nat) (x1 : Int32) (x2 : Int32) (x3 : Int32) (x4 : Int32) (x5 : Int32), k114 u a0 x1 x2 x3 x4 x5 = some (r, u') → Eg MX9_pushed 5 0 0 (some (.int r), u') 114 [(0, .ref a0), (1, .int x1), (2, .int x2), (3, .int x3), (4, .int x4), (5, .int x5)] [] u) (u : Mm) (a0 : Nat) (x1 : Int32) (x2 : Int32) (x3 : Int32) (x4 : Int32) (x5 : Int32) (h : bX9_pushed_114 k114 u a0 x1 x2 x3 x4 x5 = some (r, u')) : Eg MX9_pushed 5 0 0 (some (.int r), u') 114 [(0, .ref a0), (1, .int x1), (2, .int x2), (3, .int x3), (4, .int x4), (5, .int x5)] [] u := by
  unfold bX9_pushed_114 at h
  refine E_iload dX9_pushed_114 rfl ?_
  refine E_sipush (v := 256) dX9_pushed_116 (by decide) ?_
  refine E_ic_ge (tgt := 214) h dX9_pushed_119 (by decide) (fun h => ?_) (fun h => ?_)
  · refine E_iload_n dX9_pushed_214 rfl rfl ?_
    refine E_if_ne (tgt := 226) h dX9_pushed_215 (by decide) (fun h => ?_) (fun h => ?_)
    · refine E_iload_n dX9_pushed_226 rfl rfl ?_
      refine E_iconst (v := 1) dX9_pushed_227 (by decide) ?_
      refine E_ic_ne (tgt := 240) h dX9_pushed_228 (by decide) (fun h => ?_) (fun h => ?_)
      · refine E_iload dX9_pushed_240 rfl ?_
        refine Eg.pick [] rfl ?_
        exact pX9_pushed_242 _ _ h
      · refine E_aload_n dX9_pushed_231 rfl rfl ?_
        refine E_iload dX9_pushed_232 rfl ?_
        refine F_Vi h (fun a m e => tX9_pricesOf e) dX9_pushed_234 hm_X9_pricesOf hv_X9_pricesOf ln_X9_468 rfl rfl (Nat.le_of_ble_eq_true rfl) (Nat.le_of_ble_eq_true rfl) (kc' := 0) (ks' := 0) rfl rfl (fun v6 u7 h => ?_)
        refine E_goto (tgt := 242) dX9_pushed_237 (by decide) ?_
        refine Eg.pick [] rfl ?_
        exact pX9_pushed_242 _ _ h
    · refine E_iload dX9_pushed_218 rfl ?_
      refine F_Si h (fun a m e => tX9_ones e) dX9_pushed_220 hm_X9_ones hs_X9_ones ln_X9_446 rfl rfl (Nat.le_of_ble_eq_true rfl) (Nat.le_of_ble_eq_true rfl) (kc' := 0) (ks' := 0) rfl rfl (fun v8 u9 h => ?_)
      refine E_goto (tgt := 242) dX9_pushed_223 (by decide) ?_
      refine Eg.pick [] rfl ?_
      exact pX9_pushed_242 _ _ h
  · refine E_iload dX9_pushed_122 rfl ?_
    refine E_iload_n dX9_pushed_124 rfl rfl ?_
    refine E_iconst (v := (-1)) dX9_pushed_125 (by decide) ?_
    refine E_ixor dX9_pushed_126 ?_
    refine E_iand dX9_pushed_127 ?_
    refine E_if_ne (tgt := 153) h dX9_pushed_128 (by decide) (fun h => ?_) (fun h => ?_)
    · refine Eg.pick [0, 1, 2, 3, 4, 5] rfl ?_
      exact pX9_pushed_153 hk114 _ _ _ _ _ _ _ h
    · refine E_aload_n dX9_pushed_131 rfl rfl ?_
      refine E_iload dX9_pushed_132 rfl ?_
      refine F_Vi h (fun a m e => tX9_pricesOf e) dX9_pushed_134 hm_X9_pricesOf hv_X9_pricesOf ln_X9_468 rfl rfl (Nat.le_of_ble_eq_true rfl) (Nat.le_of_ble_eq_true rfl) (kc' := 0) (ks' := 0) rfl rfl (fun v19 u20 h => ?_)
      refine E_aload_n dX9_pushed_137 rfl rfl ?_
      refine E_getA h dX9_pushed_138 cf9 lk_X9_13 (by decide) (fun _ _ _ => rfl) (fun e21 h => ?_)
      refine E_bipush (v := 31) dX9_pushed_141 (by decide) ?_
      refine E_iload_n dX9_pushed_143 rfl rfl ?_
      refine E_iadd dX9_pushed_144 ?_
      refine E_iald h dX9_pushed_145 (fun h => ?_)
      refine E_oI h (fun v22 h => ?_)
      refine E_ic_gt (tgt := 153) h dX9_pushed_146 (by decide) (fun h => ?_) (fun h => ?_)
      · refine Eg.pick [0, 1, 2, 3, 4, 5] rfl ?_
        exact pX9_pushed_153 hk114 _ _ _ _ _ _ _ h
      · refine E_iconst (v := 1) dX9_pushed_149 (by decide) ?_
        refine E_goto (tgt := 154) dX9_pushed_150 (by decide) ?_
        refine Eg.pick [0, 1, 2, 3, 4, 5] rfl ?_
        exact pX9_pushed_154 hk114 _ _ _ _ _ _ _ _ h
def rX9_pushed_114 : Nat → Mm → Nat → Int32 → Int32 → Int32 → Int32 → Int32 → Option (Int32 × Mm)
  | 0, _, _, _, _, _, _, _ => none
  | n + 1, u, a0, x1, x2, x3, x4, x5 => bX9_pushed_114 (rX9_pushed_114 n) u a0 x1 x2 x3 x4 x5
theorem prX9_pushed_114 {r : Int32} {u' : Mm} : ∀ (n : Nat) (u : Mm) (a0 : Nat) (x1 : Int32) (x2 : Int32) (x3 : Int32) (x4 : Int32) (x5 : Int32), rX9_pushed_114 n u a0 x1 x2 x3 x4 x5 = some (r, u') → Eg MX9_pushed 5 0 0 (some (.int r), u') 114 [(0, .ref a0), (1, .int x1), (2, .int x2), (3, .int x3), (4, .int x4), (5, .int x5)] [] u
  | 0, _, _, _, _, _, _, _, h => by cases h
  | n + 1, u, a0, x1, x2, x3, x4, x5, h => pX9_pushed_114 (prX9_pushed_114 n) u a0 x1 x2 x3 x4 x5 h
def bX9_pushed_100 (k31 : Mm → Nat → Int32 → Int32 → Int32 → Int32 → Option (Int32 × Mm)) (u : Mm) (a0 : Nat) (x1 : Int32) (x2 : Int32) (x4 : Int32) (s0 : Int32) (s1 : Int32) : Option (Int32 × Mm) := oI (s1 ||| s0) (fun v29 => k31 u a0 x1 x2 v29 (x4 + 1))
set_option maxRecDepth 100000 in
set_option maxHeartbeats 4000000 in
theorem pX9_pushed_100 {r : Int32} {u' : Mm} {k31 : Mm → Nat → Int32 → Int32 → Int32 → Int32 → Option (Int32 × Mm)} (hk31 : ∀ (u : Mm) (a0 : Nat) (x1 : Int32) (x2 : Int32) (x3 : Int32) (x4 : Int32), k31 u a0 x1 x2 x3 x4 = some (r, u') → Eg MX9_pushed 5 0 0 (some (.int r), u') 31 [(0, .ref a0), (1, .int x1), (2, .int x2), (3, .int x3), (4, .int x4)] [] u) (u : Mm) (a0 : Nat) (x1 : Int32) (x2 : Int32) (x4 : Int32) (s0 : Int32) (s1 : Int32) (h : bX9_pushed_100 k31 u a0 x1 x2 x4 s0 s1 = some (r, u')) : Eg MX9_pushed 5 0 0 (some (.int r), u') 100 [(0, .ref a0), (1, .int x1), (2, .int x2), (4, .int x4)] [.int s0, .int s1] u := by
  unfold bX9_pushed_100 at h
  refine E_ior dX9_pushed_100 ?_
  refine E_oI h (fun v29 h => ?_)
  refine E_istore_n (l' := [(3, .int v29), (0, .ref a0), (1, .int x1), (2, .int x2), (4, .int x4)]) dX9_pushed_101 rfl (Nat.le_of_ble_eq_true rfl) rfl ?_
  refine E_iinc (j := 4) (v := x4 + 1) (l' := [(4, .int (x4 + 1)), (3, .int v29), (0, .ref a0), (1, .int x1), (2, .int x2)]) dX9_pushed_102 rfl (addI (by decide)) (Nat.le_of_ble_eq_true rfl) rfl ?_
  refine E_goto (tgt := 31) dX9_pushed_105 (by decide) ?_
  refine Eg.pick [2, 3, 4, 1, 0] rfl ?_
  exact hk31 _ _ _ _ _ _ h
def bX9_pushed_99 (k31 : Mm → Nat → Int32 → Int32 → Int32 → Int32 → Option (Int32 × Mm)) (u : Mm) (a0 : Nat) (x1 : Int32) (x2 : Int32) (x4 : Int32) (s0 : Int32) : Option (Int32 × Mm) := bX9_pushed_100 k31 u a0 x1 x2 x4 0 s0
set_option maxRecDepth 100000 in
set_option maxHeartbeats 4000000 in
theorem pX9_pushed_99 {r : Int32} {u' : Mm} {k31 : Mm → Nat → Int32 → Int32 → Int32 → Int32 → Option (Int32 × Mm)} (hk31 : ∀ (u : Mm) (a0 : Nat) (x1 : Int32) (x2 : Int32) (x3 : Int32) (x4 : Int32), k31 u a0 x1 x2 x3 x4 = some (r, u') → Eg MX9_pushed 5 0 0 (some (.int r), u') 31 [(0, .ref a0), (1, .int x1), (2, .int x2), (3, .int x3), (4, .int x4)] [] u) (u : Mm) (a0 : Nat) (x1 : Int32) (x2 : Int32) (x4 : Int32) (s0 : Int32) (h : bX9_pushed_99 k31 u a0 x1 x2 x4 s0 = some (r, u')) : Eg MX9_pushed 5 0 0 (some (.int r), u') 99 [(0, .ref a0), (1, .int x1), (2, .int x2), (4, .int x4)] [.int s0] u := by
  unfold bX9_pushed_99 at h
  refine E_iconst (v := 0) dX9_pushed_99 (by decide) ?_
  refine Eg.pick [0, 1, 2, 3] rfl ?_
  exact pX9_pushed_100 hk31 _ _ _ _ _ _ _ h
def bX9_pushed_31 (k31 : Mm → Nat → Int32 → Int32 → Int32 → Int32 → Option (Int32 × Mm)) (u : Mm) (a0 : Nat) (x1 : Int32) (x2 : Int32) (x3 : Int32) (x4 : Int32) : Option (Int32 × Mm) := (if (8 : Int32) ≤ x4 then rX9_pushed_114 hwF u a0 x1 x2 x3 0 1 else oK u a0 9 54 (oNn (mR u a0 42) (fun e23 => oR u a0 9 (oB (fX9_costsOf u a0 x1 x4) (fun v24 u25 => oA u25 e23 10 x4 (oU (wI u25 e23 (upd (mI u25 e23) (Int32.toNatClampNeg x4) v24)) (fun u26 => oR u26 a0 9 (oB (fX9_isBarred u26 a0 x1 x4) (fun v27 u28 => (if (v27 : Int32) = 0 then oR u28 a0 9 (oB (fX9_menOf u28 a0 x1 x4) (fun v30 u31 => oR u31 a0 9 (oB (fX9_menOf u31 a0 ((1 : Int32) - x1) x4) (fun v32 u33 => (if (v30 : Int32) ≤ v32 then bX9_pushed_99 k31 u33 a0 x1 x2 x4 x3 else oR u33 a0 9 (oB (fX9_canGoOn u33 a0 x1 x4) (fun v34 u35 => (if (v34 : Int32) = 0 then bX9_pushed_99 k31 u35 a0 x1 x2 x4 x3 else bX9_pushed_100 k31 u35 a0 x1 x2 x4 ((1 : Int32) <<< (x4 &&& 31)) x3)))))))) else bX9_pushed_99 k31 u28 a0 x1 x2 x4 x3))))))))))
set_option maxRecDepth 100000 in
set_option maxHeartbeats 4000000 in
theorem pX9_pushed_31 {r : Int32} {u' : Mm} {k31 : Mm → Nat → Int32 → Int32 → Int32 → Int32 → Option (Int32 × Mm)} (hk31 : ∀ (u : Mm) (a0 : Nat) (x1 : Int32) (x2 : Int32) (x3 : Int32) (x4 : Int32), k31 u a0 x1 x2 x3 x4 = some (r, u') → Eg MX9_pushed 5 0 0 (some (.int r), u') 31 [(0, .ref a0), (1, .int x1), (2, .int x2), (3, .int x3), (4, .int x4)] [] u) (u : Mm) (a0 : Nat) (x1 : Int32) (x2 : Int32) (x3 : Int32) (x4 : Int32) (h : bX9_pushed_31 k31 u a0 x1 x2 x3 x4 = some (r, u')) : Eg MX9_pushed 5 0 0 (some (.int r), u') 31 [(0, .ref a0), (1, .int x1), (2, .int x2), (3, .int x3), (4, .int x4)] [] u := by
  unfold bX9_pushed_31 at h
  refine E_iload dX9_pushed_31 rfl ?_
  refine E_bipush (v := 8) dX9_pushed_33 (by decide) ?_
  refine E_ic_ge (tgt := 108) h dX9_pushed_35 (by decide) (fun h => ?_) (fun h => ?_)
  · refine E_iconst (v := 0) dX9_pushed_108 (by decide) ?_
    refine E_istore (l' := [(4, .int 0), (0, .ref a0), (1, .int x1), (2, .int x2), (3, .int x3)]) dX9_pushed_109 (Nat.le_of_ble_eq_true rfl) rfl ?_
    refine E_iconst (v := 1) dX9_pushed_111 (by decide) ?_
    refine E_istore (l' := [(5, .int 1), (4, .int 0), (0, .ref a0), (1, .int x1), (2, .int x2), (3, .int x3)]) dX9_pushed_112 (Nat.le_of_ble_eq_true rfl) rfl ?_
    refine Eg.pick [2, 3, 4, 5, 1, 0] rfl ?_
    exact prX9_pushed_114 _ _ _ _ _ _ _ _ h
  · refine E_aload_n dX9_pushed_38 rfl rfl ?_
    refine E_getA h dX9_pushed_39 cf9 lk_X9_111 (by decide) (fun _ _ _ => rfl) (fun e23 h => ?_)
    refine E_iload dX9_pushed_42 rfl ?_
    refine E_aload_n dX9_pushed_44 rfl rfl ?_
    refine E_iload_n dX9_pushed_45 rfl rfl ?_
    refine E_iload dX9_pushed_46 rfl ?_
    refine F_Vi h (fun a m e => tX9_costsOf e) dX9_pushed_48 hm_X9_costsOf hv_X9_costsOf ln_X9_179 rfl rfl (Nat.le_of_ble_eq_true rfl) (Nat.le_of_ble_eq_true rfl) (kc' := 0) (ks' := 0) rfl rfl (fun v24 u25 h => ?_)
    refine E_iast h dX9_pushed_51 (fun h => ?_)
    refine E_oU h (fun u26 h => ?_)
    refine E_iload_n dX9_pushed_52 rfl rfl ?_
    refine E_aload_n dX9_pushed_53 rfl rfl ?_
    refine E_iload_n dX9_pushed_54 rfl rfl ?_
    refine E_iload dX9_pushed_55 rfl ?_
    refine F_Vi h (fun a m e => tX9_isBarred e) dX9_pushed_57 hm_X9_isBarred hv_X9_isBarred ln_X9_182 rfl rfl (Nat.le_of_ble_eq_true rfl) (Nat.le_of_ble_eq_true rfl) (kc' := 0) (ks' := 0) rfl rfl (fun v27 u28 h => ?_)
    refine E_if_ne (tgt := 99) h dX9_pushed_60 (by decide) (fun h => ?_) (fun h => ?_)
    · refine Eg.pick [0, 1, 2, 4] rfl ?_
      exact pX9_pushed_99 hk31 _ _ _ _ _ _ h
    · refine E_aload_n dX9_pushed_63 rfl rfl ?_
      refine E_iload_n dX9_pushed_64 rfl rfl ?_
      refine E_iload dX9_pushed_65 rfl ?_
      refine F_Vi h (fun a m e => tX9_menOf e) dX9_pushed_67 hm_X9_menOf hv_X9_menOf ln_X9_163 rfl rfl (Nat.le_of_ble_eq_true rfl) (Nat.le_of_ble_eq_true rfl) (kc' := 0) (ks' := 0) rfl rfl (fun v30 u31 h => ?_)
      refine E_aload_n dX9_pushed_70 rfl rfl ?_
      refine E_iconst (v := 1) dX9_pushed_71 (by decide) ?_
      refine E_iload_n dX9_pushed_72 rfl rfl ?_
      refine E_isub dX9_pushed_73 ?_
      refine E_iload dX9_pushed_74 rfl ?_
      refine F_Vi h (fun a m e => tX9_menOf e) dX9_pushed_76 hm_X9_menOf hv_X9_menOf ln_X9_163 rfl rfl (Nat.le_of_ble_eq_true rfl) (Nat.le_of_ble_eq_true rfl) (kc' := 0) (ks' := 0) rfl rfl (fun v32 u33 h => ?_)
      refine E_ic_le (tgt := 99) h dX9_pushed_79 (by decide) (fun h => ?_) (fun h => ?_)
      · refine Eg.pick [0, 1, 2, 4] rfl ?_
        exact pX9_pushed_99 hk31 _ _ _ _ _ _ h
      · refine E_aload_n dX9_pushed_82 rfl rfl ?_
        refine E_iload_n dX9_pushed_83 rfl rfl ?_
        refine E_iload dX9_pushed_84 rfl ?_
        refine F_Vi h (fun a m e => tX9_canGoOn e) dX9_pushed_86 hm_X9_canGoOn hv_X9_canGoOn ln_X9_406 rfl rfl (Nat.le_of_ble_eq_true rfl) (Nat.le_of_ble_eq_true rfl) (kc' := 0) (ks' := 0) rfl rfl (fun v34 u35 h => ?_)
        refine E_if_eq (tgt := 99) h dX9_pushed_89 (by decide) (fun h => ?_) (fun h => ?_)
        · refine Eg.pick [0, 1, 2, 4] rfl ?_
          exact pX9_pushed_99 hk31 _ _ _ _ _ _ h
        · refine E_iconst (v := 1) dX9_pushed_92 (by decide) ?_
          refine E_iload dX9_pushed_93 rfl ?_
          refine E_ishl dX9_pushed_95 ?_
          refine E_goto (tgt := 100) dX9_pushed_96 (by decide) ?_
          refine Eg.pick [0, 1, 2, 4] rfl ?_
          exact pX9_pushed_100 hk31 _ _ _ _ _ _ _ h
def rX9_pushed_31 : Nat → Mm → Nat → Int32 → Int32 → Int32 → Int32 → Option (Int32 × Mm)
  | 0, _, _, _, _, _, _ => none
  | n + 1, u, a0, x1, x2, x3, x4 => bX9_pushed_31 (rX9_pushed_31 n) u a0 x1 x2 x3 x4
theorem prX9_pushed_31 {r : Int32} {u' : Mm} : ∀ (n : Nat) (u : Mm) (a0 : Nat) (x1 : Int32) (x2 : Int32) (x3 : Int32) (x4 : Int32), rX9_pushed_31 n u a0 x1 x2 x3 x4 = some (r, u') → Eg MX9_pushed 5 0 0 (some (.int r), u') 31 [(0, .ref a0), (1, .int x1), (2, .int x2), (3, .int x3), (4, .int x4)] [] u
  | 0, _, _, _, _, _, _, h => by cases h
  | n + 1, u, a0, x1, x2, x3, x4, h => pX9_pushed_31 (prX9_pushed_31 n) u a0 x1 x2 x3 x4 h
def fX9_pushed (u : Mm) (a0 : Nat) (x1 : Int32) (x2 : Int32) : Option (Int32 × Mm) := oK u a0 9 54 (oU (wI u a0 (upd (mI u a0) 0 0)) (fun u1 => oB (fX9_isSide u1 x1) (fun v2 u3 => (if (v2 : Int32) = 0 then some ((-1), u3) else oB (fX9_in u3 (Int32.toInt64 x2) 0 2) (fun v4 u5 => (if (v4 : Int32) = 0 then some ((-1), u5) else rX9_pushed_31 hwF u5 a0 x1 x2 0 0))))))
set_option maxRecDepth 100000 in
set_option maxHeartbeats 4000000 in
theorem tX9_pushed {u : Mm} {a0 : Nat} {x1 : Int32} {x2 : Int32} {r : Int32} {u' : Mm} (h : fX9_pushed u a0 x1 x2 = some (r, u')) : Ev 5 MX9_pushed 0 0 [.ref a0, .int x1, .int x2] u (some (.int r), u') := by
  refine Ev.of (by decide +kernel) (Nat.le_of_ble_eq_true rfl) (show Eg MX9_pushed 5 0 0 (some (.int r), u') 0 [(0, .ref a0), (1, .int x1), (2, .int x2)] [] u from ?_)
  unfold fX9_pushed at h
  refine E_aload_n dX9_pushed_0 rfl rfl ?_
  refine E_iconst (v := 0) dX9_pushed_1 (by decide) ?_
  refine E_putI h dX9_pushed_2 cf9 lk_X9_134 (by decide) (Or.inl rfl) rfl (fun h => ?_)
  refine E_oU h (fun u1 h => ?_)
  refine E_iload_n dX9_pushed_5 rfl rfl ?_
  refine F_Si h (fun a m e => tX9_isSide e) dX9_pushed_6 hm_X9_isSide hs_X9_isSide ln_X9_167 rfl rfl (Nat.le_of_ble_eq_true rfl) (Nat.le_of_ble_eq_true rfl) (kc' := 0) (ks' := 0) rfl rfl (fun v2 u3 h => ?_)
  refine E_if_eq (tgt := 24) h dX9_pushed_9 (by decide) (fun h => ?_) (fun h => ?_)
  · refine E_iconst (v := (-1)) dX9_pushed_24 (by decide) ?_
    exact E_iret h dX9_pushed_25 rfl
  · refine E_iload_n dX9_pushed_12 rfl rfl ?_
    refine E_i2l dX9_pushed_13 ?_
    refine E_lconst (v := 0) dX9_pushed_14 (by decide) ?_
    refine E_ldc2 dX9_pushed_15 rfl cn_X9_466 ?_
    refine F_Si h (fun a m e => tX9_in e) dX9_pushed_18 hm_X9_in hs_X9_in ln_X9_154 rfl rfl (Nat.le_of_ble_eq_true rfl) (Nat.le_of_ble_eq_true rfl) (kc' := 0) (ks' := 0) rfl rfl (fun v4 u5 h => ?_)
    refine E_if_ne (tgt := 26) h dX9_pushed_21 (by decide) (fun h => ?_) (fun h => ?_)
    · refine E_iconst (v := 0) dX9_pushed_26 (by decide) ?_
      refine E_istore_n (l' := [(3, .int 0), (0, .ref a0), (1, .int x1), (2, .int x2)]) dX9_pushed_27 rfl (Nat.le_of_ble_eq_true rfl) rfl ?_
      refine E_iconst (v := 0) dX9_pushed_28 (by decide) ?_
      refine E_istore (l' := [(4, .int 0), (3, .int 0), (0, .ref a0), (1, .int x1), (2, .int x2)]) dX9_pushed_29 (Nat.le_of_ble_eq_true rfl) rfl ?_
      refine Eg.pick [2, 3, 4, 1, 0] rfl ?_
      exact prX9_pushed_31 _ _ _ _ _ _ _ h
    · refine E_iconst (v := (-1)) dX9_pushed_24 (by decide) ?_
      exact E_iret h dX9_pushed_25 rfl
def bX9_level_62 (k28 : Mm → Nat → Int32 → Int32 → Int32 → Int32 → Int32 → Option (Int32 × Mm)) (u : Mm) (a0 : Nat) (x1 : Int32) (x2 : Int32) (x4 : Int32) (x5 : Int32) (s0 : Int32) (s1 : Int32) (s2 : Int32) : Option (Int32 × Mm) := oI (s2 + (s1 - s0)) (fun v8 => oB (fX9_sizeOf u v8) (fun v9 u10 => oI (x4 + v9) (fun v11 => k28 u10 a0 x1 x2 v8 v11 (x5 + 1))))
set_option maxRecDepth 100000 in
set_option maxHeartbeats 4000000 in
theorem pX9_level_62 {r : Int32} {u' : Mm} {k28 : Mm → Nat → Int32 → Int32 → Int32 → Int32 → Int32 → Option (Int32 × Mm)} (hk28 : ∀ (u : Mm) (a0 : Nat) (x1 : Int32) (x2 : Int32) (x3 : Int32) (x4 : Int32) (x5 : Int32), k28 u a0 x1 x2 x3 x4 x5 = some (r, u') → Eg MX9_level 2 0 0 (some (.int r), u') 28 [(0, .ref a0), (1, .int x1), (2, .int x2), (3, .int x3), (4, .int x4), (5, .int x5)] [] u) (u : Mm) (a0 : Nat) (x1 : Int32) (x2 : Int32) (x4 : Int32) (x5 : Int32) (s0 : Int32) (s1 : Int32) (s2 : Int32) (h : bX9_level_62 k28 u a0 x1 x2 x4 x5 s0 s1 s2 = some (r, u')) : Eg MX9_level 2 0 0 (some (.int r), u') 62 [(0, .ref a0), (1, .int x1), (2, .int x2), (4, .int x4), (5, .int x5)] [.int s0, .int s1, .int s2] u := by
  unfold bX9_level_62 at h
  refine E_isub dX9_level_62 ?_
  refine E_iadd dX9_level_63 ?_
  refine E_oI h (fun v8 h => ?_)
  refine E_istore_n (l' := [(3, .int v8), (0, .ref a0), (1, .int x1), (2, .int x2), (4, .int x4), (5, .int x5)]) dX9_level_64 rfl (Nat.le_of_ble_eq_true rfl) rfl ?_
  refine E_iload dX9_level_65 rfl ?_
  refine E_iload_n dX9_level_67 rfl rfl ?_
  refine F_Si h (fun a m e => tX9_sizeOf e) dX9_level_68 hm_X9_sizeOf hs_X9_sizeOf ln_X9_423 rfl rfl (Nat.le_of_ble_eq_true rfl) (Nat.le_of_ble_eq_true rfl) (kc' := 0) (ks' := 0) rfl rfl (fun v9 u10 h => ?_)
  refine E_iadd dX9_level_71 ?_
  refine E_oI h (fun v11 h => ?_)
  refine E_istore (l' := [(4, .int v11), (3, .int v8), (0, .ref a0), (1, .int x1), (2, .int x2), (5, .int x5)]) dX9_level_72 (Nat.le_of_ble_eq_true rfl) rfl ?_
  refine E_iinc (j := 5) (v := x5 + 1) (l' := [(5, .int (x5 + 1)), (4, .int v11), (3, .int v8), (0, .ref a0), (1, .int x1), (2, .int x2)]) dX9_level_74 rfl (addI (by decide)) (Nat.le_of_ble_eq_true rfl) rfl ?_
  refine E_goto (tgt := 28) dX9_level_77 (by decide) ?_
  refine Eg.pick [3, 4, 5, 2, 1, 0] rfl ?_
  exact hk28 _ _ _ _ _ _ _ h
def bX9_level_28 (k28 : Mm → Nat → Int32 → Int32 → Int32 → Int32 → Int32 → Option (Int32 × Mm)) (u : Mm) (a0 : Nat) (x1 : Int32) (x2 : Int32) (x3 : Int32) (x4 : Int32) (x5 : Int32) : Option (Int32 × Mm) := (if (8 : Int32) ≤ x5 then some (x4, u) else oR u a0 9 (oB (fX9_menOf u a0 x1 x5) (fun v6 u7 => (if (8 : Int32) ≠ 0 then (if (8 : Int32) ≠ 0 then (if (x2 - x2 / 8 * 8 : Int32) ≤ x5 then bX9_level_62 k28 u7 a0 x1 x2 x4 x5 0 (v6 - (x2 / 8)) x3 else bX9_level_62 k28 u7 a0 x1 x2 x4 x5 1 (v6 - (x2 / 8)) x3) else none) else none))))
set_option maxRecDepth 100000 in
set_option maxHeartbeats 4000000 in
theorem pX9_level_28 {r : Int32} {u' : Mm} {k28 : Mm → Nat → Int32 → Int32 → Int32 → Int32 → Int32 → Option (Int32 × Mm)} (hk28 : ∀ (u : Mm) (a0 : Nat) (x1 : Int32) (x2 : Int32) (x3 : Int32) (x4 : Int32) (x5 : Int32), k28 u a0 x1 x2 x3 x4 x5 = some (r, u') → Eg MX9_level 2 0 0 (some (.int r), u') 28 [(0, .ref a0), (1, .int x1), (2, .int x2), (3, .int x3), (4, .int x4), (5, .int x5)] [] u) (u : Mm) (a0 : Nat) (x1 : Int32) (x2 : Int32) (x3 : Int32) (x4 : Int32) (x5 : Int32) (h : bX9_level_28 k28 u a0 x1 x2 x3 x4 x5 = some (r, u')) : Eg MX9_level 2 0 0 (some (.int r), u') 28 [(0, .ref a0), (1, .int x1), (2, .int x2), (3, .int x3), (4, .int x4), (5, .int x5)] [] u := by
  unfold bX9_level_28 at h
  refine E_iload dX9_level_28 rfl ?_
  refine E_bipush (v := 8) dX9_level_30 (by decide) ?_
  refine E_ic_ge (tgt := 80) h dX9_level_32 (by decide) (fun h => ?_) (fun h => ?_)
  · refine E_iload dX9_level_80 rfl ?_
    exact E_iret h dX9_level_82 rfl
  · refine E_iload_n dX9_level_35 rfl rfl ?_
    refine E_aload_n dX9_level_36 rfl rfl ?_
    refine E_iload_n dX9_level_37 rfl rfl ?_
    refine E_iload dX9_level_38 rfl ?_
    refine F_Vi h (fun a m e => tX9_menOf e) dX9_level_40 hm_X9_menOf hv_X9_menOf ln_X9_163 rfl rfl (Nat.le_of_ble_eq_true rfl) (Nat.le_of_ble_eq_true rfl) (kc' := 0) (ks' := 0) rfl rfl (fun v6 u7 h => ?_)
    refine E_iload_n dX9_level_43 rfl rfl ?_
    refine E_bipush (v := 8) dX9_level_44 (by decide) ?_
    refine E_idiv h dX9_level_46 (fun h => ?_)
    refine E_isub dX9_level_47 ?_
    refine E_iload dX9_level_48 rfl ?_
    refine E_iload_n dX9_level_50 rfl rfl ?_
    refine E_bipush (v := 8) dX9_level_51 (by decide) ?_
    refine E_irem h dX9_level_53 (fun h => ?_)
    refine E_ic_ge (tgt := 61) h dX9_level_54 (by decide) (fun h => ?_) (fun h => ?_)
    · refine E_iconst (v := 0) dX9_level_61 (by decide) ?_
      refine Eg.pick [0, 1, 2, 4, 5] rfl ?_
      exact pX9_level_62 hk28 _ _ _ _ _ _ _ _ _ h
    · refine E_iconst (v := 1) dX9_level_57 (by decide) ?_
      refine E_goto (tgt := 62) dX9_level_58 (by decide) ?_
      refine Eg.pick [0, 1, 2, 4, 5] rfl ?_
      exact pX9_level_62 hk28 _ _ _ _ _ _ _ _ _ h
def rX9_level_28 : Nat → Mm → Nat → Int32 → Int32 → Int32 → Int32 → Int32 → Option (Int32 × Mm)
  | 0, _, _, _, _, _, _, _ => none
  | n + 1, u, a0, x1, x2, x3, x4, x5 => bX9_level_28 (rX9_level_28 n) u a0 x1 x2 x3 x4 x5
theorem prX9_level_28 {r : Int32} {u' : Mm} : ∀ (n : Nat) (u : Mm) (a0 : Nat) (x1 : Int32) (x2 : Int32) (x3 : Int32) (x4 : Int32) (x5 : Int32), rX9_level_28 n u a0 x1 x2 x3 x4 x5 = some (r, u') → Eg MX9_level 2 0 0 (some (.int r), u') 28 [(0, .ref a0), (1, .int x1), (2, .int x2), (3, .int x3), (4, .int x4), (5, .int x5)] [] u
  | 0, _, _, _, _, _, _, _, h => by cases h
  | n + 1, u, a0, x1, x2, x3, x4, x5, h => pX9_level_28 (prX9_level_28 n) u a0 x1 x2 x3 x4 x5 h
def fX9_level (u : Mm) (a0 : Nat) (x1 : Int32) : Option (Int32 × Mm) := oK u a0 9 54 (oU (wI u a0 (upd (mI u a0) 0 0)) (fun u1 => oB (fX9_isSide u1 x1) (fun v2 u3 => (if (v2 : Int32) = 0 then some ((-1), u3) else oR u3 a0 9 (oB (fX9_allMen u3 a0 x1) (fun v4 u5 => rX9_level_28 hwF u5 a0 x1 v4 0 0 0))))))
set_option maxRecDepth 100000 in
set_option maxHeartbeats 4000000 in
theorem tX9_level {u : Mm} {a0 : Nat} {x1 : Int32} {r : Int32} {u' : Mm} (h : fX9_level u a0 x1 = some (r, u')) : Ev 2 MX9_level 0 0 [.ref a0, .int x1] u (some (.int r), u') := by
  refine Ev.of (by decide +kernel) (Nat.le_of_ble_eq_true rfl) (show Eg MX9_level 2 0 0 (some (.int r), u') 0 [(0, .ref a0), (1, .int x1)] [] u from ?_)
  unfold fX9_level at h
  refine E_aload_n dX9_level_0 rfl rfl ?_
  refine E_iconst (v := 0) dX9_level_1 (by decide) ?_
  refine E_putI h dX9_level_2 cf9 lk_X9_134 (by decide) (Or.inl rfl) rfl (fun h => ?_)
  refine E_oU h (fun u1 h => ?_)
  refine E_iload_n dX9_level_5 rfl rfl ?_
  refine F_Si h (fun a m e => tX9_isSide e) dX9_level_6 hm_X9_isSide hs_X9_isSide ln_X9_167 rfl rfl (Nat.le_of_ble_eq_true rfl) (Nat.le_of_ble_eq_true rfl) (kc' := 0) (ks' := 0) rfl rfl (fun v2 u3 h => ?_)
  refine E_if_ne (tgt := 14) h dX9_level_9 (by decide) (fun h => ?_) (fun h => ?_)
  · refine E_aload_n dX9_level_14 rfl rfl ?_
    refine E_iload_n dX9_level_15 rfl rfl ?_
    refine F_Vi h (fun a m e => tX9_allMen e) dX9_level_16 hm_X9_allMen hv_X9_allMen ln_X9_189 rfl rfl (Nat.le_of_ble_eq_true rfl) (Nat.le_of_ble_eq_true rfl) (kc' := 0) (ks' := 0) rfl rfl (fun v4 u5 h => ?_)
    refine E_istore_n (l' := [(2, .int v4), (0, .ref a0), (1, .int x1)]) dX9_level_19 rfl (Nat.le_of_ble_eq_true rfl) rfl ?_
    refine E_iconst (v := 0) dX9_level_20 (by decide) ?_
    refine E_istore_n (l' := [(3, .int 0), (2, .int v4), (0, .ref a0), (1, .int x1)]) dX9_level_21 rfl (Nat.le_of_ble_eq_true rfl) rfl ?_
    refine E_iconst (v := 0) dX9_level_22 (by decide) ?_
    refine E_istore (l' := [(4, .int 0), (3, .int 0), (2, .int v4), (0, .ref a0), (1, .int x1)]) dX9_level_23 (Nat.le_of_ble_eq_true rfl) rfl ?_
    refine E_iconst (v := 0) dX9_level_25 (by decide) ?_
    refine E_istore (l' := [(5, .int 0), (4, .int 0), (3, .int 0), (2, .int v4), (0, .ref a0), (1, .int x1)]) dX9_level_26 (Nat.le_of_ble_eq_true rfl) rfl ?_
    refine Eg.pick [4, 5, 3, 2, 1, 0] rfl ?_
    exact prX9_level_28 _ _ _ _ _ _ _ _ h
  · refine E_iconst (v := (-1)) dX9_level_12 (by decide) ?_
    exact E_iret h dX9_level_13 rfl
