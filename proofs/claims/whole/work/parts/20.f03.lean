/-! ===== methods as functions, with their contracts (printed by program) ===== -/
def bX2_allChainsEnd_2 (k2 : Mm → Nat → Int32 → Int32 → Option (Int32 × Mm)) (u : Mm) (a0 : Nat) (x1 : Int32) (x2 : Int32) : Option (Int32 × Mm) := (if (8 : Int32) ≤ x2 then oZ 1 (some (1, u)) else oR u a0 2 (oB (fX2_chainFrom u a0 x2 0 x1) (fun v1 u2 => (if (v1 : Int32) < 0 then oZ 0 (some (0, u2)) else oR u2 a0 2 (oB (fX2_chainFrom u2 a0 x2 1 x1) (fun v3 u4 => (if 0 ≤ (v3 : Int32) then k2 u4 a0 x1 (x2 + 1) else oZ 0 (some (0, u4)))))))))
set_option maxRecDepth 100000 in
set_option maxHeartbeats 4000000 in
theorem pX2_allChainsEnd_2 {r : Int32} {u' : Mm} {k2 : Mm → Nat → Int32 → Int32 → Option (Int32 × Mm)} (hk2 : ∀ (u : Mm) (a0 : Nat) (x1 : Int32) (x2 : Int32), k2 u a0 x1 x2 = some (r, u') → Eg MX2_allChainsEnd 3 0 0 (some (.int r), u') 2 [(0, .ref a0), (1, .int x1), (2, .int x2)] [] u) (u : Mm) (a0 : Nat) (x1 : Int32) (x2 : Int32) (h : bX2_allChainsEnd_2 k2 u a0 x1 x2 = some (r, u')) : Eg MX2_allChainsEnd 3 0 0 (some (.int r), u') 2 [(0, .ref a0), (1, .int x1), (2, .int x2)] [] u := by
  unfold bX2_allChainsEnd_2 at h
  refine E_iload_n dX2_allChainsEnd_2 rfl rfl ?_
  refine E_bipush (v := 8) dX2_allChainsEnd_3 (by decide) ?_
  refine E_ic_ge (tgt := 36) h dX2_allChainsEnd_5 (by decide) (fun h => ?_) (fun h => ?_)
  · refine E_iconst (v := 1) dX2_allChainsEnd_36 (by decide) ?_
    exact E_zret h dX2_allChainsEnd_37 rfl
  · refine E_aload_n dX2_allChainsEnd_8 rfl rfl ?_
    refine E_iload_n dX2_allChainsEnd_9 rfl rfl ?_
    refine E_iconst (v := 0) dX2_allChainsEnd_10 (by decide) ?_
    refine E_iload_n dX2_allChainsEnd_11 rfl rfl ?_
    refine F_Vi h (fun a m e => tX2_chainFrom e) dX2_allChainsEnd_12 hm_X2_chainFrom hv_X2_chainFrom ln_X2_96 rfl rfl (Nat.le_of_ble_eq_true rfl) (Nat.le_of_ble_eq_true rfl) (kc' := 0) (ks' := 0) rfl rfl (fun v1 u2 h => ?_)
    refine E_if_lt (tgt := 28) h dX2_allChainsEnd_15 (by decide) (fun h => ?_) (fun h => ?_)
    · refine E_iconst (v := 0) dX2_allChainsEnd_28 (by decide) ?_
      exact E_zret h dX2_allChainsEnd_29 rfl
    · refine E_aload_n dX2_allChainsEnd_18 rfl rfl ?_
      refine E_iload_n dX2_allChainsEnd_19 rfl rfl ?_
      refine E_iconst (v := 1) dX2_allChainsEnd_20 (by decide) ?_
      refine E_iload_n dX2_allChainsEnd_21 rfl rfl ?_
      refine F_Vi h (fun a m e => tX2_chainFrom e) dX2_allChainsEnd_22 hm_X2_chainFrom hv_X2_chainFrom ln_X2_96 rfl rfl (Nat.le_of_ble_eq_true rfl) (Nat.le_of_ble_eq_true rfl) (kc' := 0) (ks' := 0) rfl rfl (fun v3 u4 h => ?_)
      refine E_if_ge (tgt := 30) h dX2_allChainsEnd_25 (by decide) (fun h => ?_) (fun h => ?_)
      · refine E_iinc (j := 2) (v := x2 + 1) (l' := [(2, .int (x2 + 1)), (0, .ref a0), (1, .int x1)]) dX2_allChainsEnd_30 rfl (addI (by decide)) (Nat.le_of_ble_eq_true rfl) rfl ?_
        refine E_goto (tgt := 2) dX2_allChainsEnd_33 (by decide) ?_
        refine Eg.pick [1, 2, 0] rfl ?_
        exact hk2 _ _ _ _ h
      · refine E_iconst (v := 0) dX2_allChainsEnd_28 (by decide) ?_
        exact E_zret h dX2_allChainsEnd_29 rfl
def rX2_allChainsEnd_2 : Nat → Mm → Nat → Int32 → Int32 → Option (Int32 × Mm)
  | 0, _, _, _, _ => none
  | n + 1, u, a0, x1, x2 => bX2_allChainsEnd_2 (rX2_allChainsEnd_2 n) u a0 x1 x2
theorem prX2_allChainsEnd_2 {r : Int32} {u' : Mm} : ∀ (n : Nat) (u : Mm) (a0 : Nat) (x1 : Int32) (x2 : Int32), rX2_allChainsEnd_2 n u a0 x1 x2 = some (r, u') → Eg MX2_allChainsEnd 3 0 0 (some (.int r), u') 2 [(0, .ref a0), (1, .int x1), (2, .int x2)] [] u
  | 0, _, _, _, _, h => by cases h
  | n + 1, u, a0, x1, x2, h => pX2_allChainsEnd_2 (prX2_allChainsEnd_2 n) u a0 x1 x2 h
def fX2_allChainsEnd (u : Mm) (a0 : Nat) (x1 : Int32) : Option (Int32 × Mm) := rX2_allChainsEnd_2 hwF u a0 x1 0
set_option maxRecDepth 100000 in
set_option maxHeartbeats 4000000 in
theorem tX2_allChainsEnd {u : Mm} {a0 : Nat} {x1 : Int32} {r : Int32} {u' : Mm} (h : fX2_allChainsEnd u a0 x1 = some (r, u')) : Ev 3 MX2_allChainsEnd 0 0 [.ref a0, .int x1] u (some (.int r), u') := by
  refine Ev.of (by decide +kernel) (Nat.le_of_ble_eq_true rfl) (show Eg MX2_allChainsEnd 3 0 0 (some (.int r), u') 0 [(0, .ref a0), (1, .int x1)] [] u from ?_)
  unfold fX2_allChainsEnd at h
  refine E_iconst (v := 0) dX2_allChainsEnd_0 (by decide) ?_
  refine E_istore_n (l' := [(2, .int 0), (0, .ref a0), (1, .int x1)]) dX2_allChainsEnd_1 rfl (Nat.le_of_ble_eq_true rfl) rfl ?_
  refine Eg.pick [1, 2, 0] rfl ?_
  exact prX2_allChainsEnd_2 _ _ _ _ _ h
def bX2_signsToStill_29 (k4 : Mm → Nat → Int32 → Int32 → Option (Int32 × Mm)) (u : Mm) (a0 : Nat) (x1 : Int32) (x2 : Int32) : Option (Int32 × Mm) := k4 u a0 x1 (x2 + 1)
set_option maxRecDepth 100000 in
set_option maxHeartbeats 4000000 in
theorem pX2_signsToStill_29 {r : Int32} {u' : Mm} {k4 : Mm → Nat → Int32 → Int32 → Option (Int32 × Mm)} (hk4 : ∀ (u : Mm) (a0 : Nat) (x1 : Int32) (x2 : Int32), k4 u a0 x1 x2 = some (r, u') → Eg MX2_signsToStill 4 0 0 (some (.int r), u') 4 [(0, .ref a0), (1, .int x1), (2, .int x2)] [] u) (u : Mm) (a0 : Nat) (x1 : Int32) (x2 : Int32) (h : bX2_signsToStill_29 k4 u a0 x1 x2 = some (r, u')) : Eg MX2_signsToStill 4 0 0 (some (.int r), u') 29 [(0, .ref a0), (1, .int x1), (2, .int x2)] [] u := by
  unfold bX2_signsToStill_29 at h
  refine E_iinc (j := 2) (v := x2 + 1) (l' := [(2, .int (x2 + 1)), (0, .ref a0), (1, .int x1)]) dX2_signsToStill_29 rfl (addI (by decide)) (Nat.le_of_ble_eq_true rfl) rfl ?_
  refine E_goto (tgt := 4) dX2_signsToStill_32 (by decide) ?_
  refine Eg.pick [1, 2, 0] rfl ?_
  exact hk4 _ _ _ _ h
def bX2_signsToStill_4 (k4 : Mm → Nat → Int32 → Int32 → Option (Int32 × Mm)) (u : Mm) (a0 : Nat) (x1 : Int32) (x2 : Int32) : Option (Int32 × Mm) := (if (256 : Int32) ≤ x2 then some (x1, u) else oB (fX2_isFewer u x2 x1) (fun v1 u2 => (if (v1 : Int32) = 0 then bX2_signsToStill_29 k4 u2 a0 x1 x2 else oR u2 a0 2 (oB (fX2_allChainsEnd u2 a0 x2) (fun v3 u4 => (if (v3 : Int32) = 0 then bX2_signsToStill_29 k4 u4 a0 x1 x2 else bX2_signsToStill_29 k4 u4 a0 x2 x2))))))
set_option maxRecDepth 100000 in
set_option maxHeartbeats 4000000 in
theorem pX2_signsToStill_4 {r : Int32} {u' : Mm} {k4 : Mm → Nat → Int32 → Int32 → Option (Int32 × Mm)} (hk4 : ∀ (u : Mm) (a0 : Nat) (x1 : Int32) (x2 : Int32), k4 u a0 x1 x2 = some (r, u') → Eg MX2_signsToStill 4 0 0 (some (.int r), u') 4 [(0, .ref a0), (1, .int x1), (2, .int x2)] [] u) (u : Mm) (a0 : Nat) (x1 : Int32) (x2 : Int32) (h : bX2_signsToStill_4 k4 u a0 x1 x2 = some (r, u')) : Eg MX2_signsToStill 4 0 0 (some (.int r), u') 4 [(0, .ref a0), (1, .int x1), (2, .int x2)] [] u := by
  unfold bX2_signsToStill_4 at h
  refine E_iload_n dX2_signsToStill_4 rfl rfl ?_
  refine E_sipush (v := 256) dX2_signsToStill_5 (by decide) ?_
  refine E_ic_ge (tgt := 35) h dX2_signsToStill_8 (by decide) (fun h => ?_) (fun h => ?_)
  · refine E_iload_n dX2_signsToStill_35 rfl rfl ?_
    exact E_iret h dX2_signsToStill_36 rfl
  · refine E_iload_n dX2_signsToStill_11 rfl rfl ?_
    refine E_iload_n dX2_signsToStill_12 rfl rfl ?_
    refine F_Si h (fun a m e => tX2_isFewer e) dX2_signsToStill_13 hm_X2_isFewer hs_X2_isFewer ln_X2_29 rfl rfl (Nat.le_of_ble_eq_true rfl) (Nat.le_of_ble_eq_true rfl) (kc' := 0) (ks' := 0) rfl rfl (fun v1 u2 h => ?_)
    refine E_if_eq (tgt := 29) h dX2_signsToStill_16 (by decide) (fun h => ?_) (fun h => ?_)
    · refine Eg.pick [0, 1, 2] rfl ?_
      exact pX2_signsToStill_29 hk4 _ _ _ _ h
    · refine E_aload_n dX2_signsToStill_19 rfl rfl ?_
      refine E_iload_n dX2_signsToStill_20 rfl rfl ?_
      refine F_Vi h (fun a m e => tX2_allChainsEnd e) dX2_signsToStill_21 hm_X2_allChainsEnd hv_X2_allChainsEnd ln_X2_93 rfl rfl (Nat.le_of_ble_eq_true rfl) (Nat.le_of_ble_eq_true rfl) (kc' := 0) (ks' := 0) rfl rfl (fun v3 u4 h => ?_)
      refine E_if_eq (tgt := 29) h dX2_signsToStill_24 (by decide) (fun h => ?_) (fun h => ?_)
      · refine Eg.pick [0, 1, 2] rfl ?_
        exact pX2_signsToStill_29 hk4 _ _ _ _ h
      · refine E_iload_n dX2_signsToStill_27 rfl rfl ?_
        refine E_istore_n (l' := [(1, .int x2), (0, .ref a0), (2, .int x2)]) dX2_signsToStill_28 rfl (Nat.le_of_ble_eq_true rfl) rfl ?_
        refine Eg.pick [1, 0, 2] rfl ?_
        exact pX2_signsToStill_29 hk4 _ _ _ _ h
def rX2_signsToStill_4 : Nat → Mm → Nat → Int32 → Int32 → Option (Int32 × Mm)
  | 0, _, _, _, _ => none
  | n + 1, u, a0, x1, x2 => bX2_signsToStill_4 (rX2_signsToStill_4 n) u a0 x1 x2
theorem prX2_signsToStill_4 {r : Int32} {u' : Mm} : ∀ (n : Nat) (u : Mm) (a0 : Nat) (x1 : Int32) (x2 : Int32), rX2_signsToStill_4 n u a0 x1 x2 = some (r, u') → Eg MX2_signsToStill 4 0 0 (some (.int r), u') 4 [(0, .ref a0), (1, .int x1), (2, .int x2)] [] u
  | 0, _, _, _, _, h => by cases h
  | n + 1, u, a0, x1, x2, h => pX2_signsToStill_4 (prX2_signsToStill_4 n) u a0 x1 x2 h
def fX2_signsToStill (u : Mm) (a0 : Nat) : Option (Int32 × Mm) := rX2_signsToStill_4 hwF u a0 ((-1)) 0
set_option maxRecDepth 100000 in
set_option maxHeartbeats 4000000 in
theorem tX2_signsToStill {u : Mm} {a0 : Nat} {r : Int32} {u' : Mm} (h : fX2_signsToStill u a0 = some (r, u')) : Ev 4 MX2_signsToStill 0 0 [.ref a0] u (some (.int r), u') := by
  refine Ev.of (by decide +kernel) (Nat.le_of_ble_eq_true rfl) (show Eg MX2_signsToStill 4 0 0 (some (.int r), u') 0 [(0, .ref a0)] [] u from ?_)
  unfold fX2_signsToStill at h
  refine E_iconst (v := (-1)) dX2_signsToStill_0 (by decide) ?_
  refine E_istore_n (l' := [(1, .int ((-1))), (0, .ref a0)]) dX2_signsToStill_1 rfl (Nat.le_of_ble_eq_true rfl) rfl ?_
  refine E_iconst (v := 0) dX2_signsToStill_2 (by decide) ?_
  refine E_istore_n (l' := [(2, .int 0), (1, .int ((-1))), (0, .ref a0)]) dX2_signsToStill_3 rfl (Nat.le_of_ble_eq_true rfl) rfl ?_
  refine Eg.pick [2, 1, 0] rfl ?_
  exact prX2_signsToStill_4 _ _ _ _ _ h
def fX5_setLawWords (u : Mm) (a0 : Nat) (a1 : Nat) (x2 : Int32) (x3 : Int32) : Option (Unit × Mm) := oK u a0 5 2 (oNn (mR u a0 1) (fun e1 => oA u e1 10 0 (oU (wI u e1 (upd (mI u e1) (Int32.toNatClampNeg 0) x2)) (fun u2 => oK u2 a0 5 2 (oNn (mR u2 a0 1) (fun e3 => oA u2 e3 10 1 (oU (wI u2 e3 (upd (mI u2 e3) (Int32.toNatClampNeg 1) ((-1)))) (fun u4 => oK u4 a0 5 2 (oNn (mR u4 a0 1) (fun e5 => oA u4 e5 10 2 (oU (wI u4 e5 (upd (mI u4 e5) (Int32.toNatClampNeg 2) ((-1)))) (fun u6 => oK u6 a0 5 2 (oNn (mR u6 a0 1) (fun e7 => oA u6 e7 10 3 (oU (wI u6 e7 (upd (mI u6 e7) (Int32.toNatClampNeg 3) ((-1)))) (fun u8 => oK u8 a0 5 2 (oNn (mR u8 a0 1) (fun e9 => oA u8 e9 10 4 (oU (wI u8 e9 (upd (mI u8 e9) (Int32.toNatClampNeg 4) ((-1)))) (fun u10 => oK u10 a0 5 2 (oNn (mR u10 a0 1) (fun e11 => oR u10 a1 1 (oB (fX1_supplyOf u10 a1 x2) (fun v12 u13 => oA u13 e11 10 5 (oU (wI u13 e11 (upd (mI u13 e11) (Int32.toNatClampNeg 5) v12)) (fun u14 => oK u14 a0 5 2 (oNn (mR u14 a0 1) (fun e15 => oR u14 a1 1 (oB (fX1_temperOf u14 a1 x2) (fun v16 u17 => oA u17 e15 10 6 (oU (wI u17 e15 (upd (mI u17 e15) (Int32.toNatClampNeg 6) v16)) (fun u18 => oK u18 a0 5 2 (oNn (mR u18 a0 1) (fun e19 => oA u18 e19 10 7 (oU (wI u18 e19 (upd (mI u18 e19) (Int32.toNatClampNeg 7) ((-1)))) (fun u20 => oK u20 a0 5 2 (oNn (mR u20 a0 1) (fun e21 => oR u20 a1 1 (oB (fX1_theDay u20 a1) (fun v22 u23 => oA u23 e21 10 8 (oU (wI u23 e21 (upd (mI u23 e21) (Int32.toNatClampNeg 8) v22)) (fun u24 => oK u24 a0 5 2 (oNn (mR u24 a0 1) (fun e25 => oA u24 e25 10 9 (oU (wI u24 e25 (upd (mI u24 e25) (Int32.toNatClampNeg 9) x3)) (fun u26 => some ((), u26)))))))))))))))))))))))))))))))))))))))))))))))
set_option maxRecDepth 100000 in
set_option maxHeartbeats 4000000 in
theorem tX5_setLawWords {u : Mm} {a0 : Nat} {a1 : Nat} {x2 : Int32} {x3 : Int32} {r : Unit} {u' : Mm} (h : fX5_setLawWords u a0 a1 x2 x3 = some (r, u')) : Ev 1 MX5_setLawWords 0 0 [.ref a0, .ref a1, .int x2, .int x3] u (none, u') := by
  refine Ev.of (by decide +kernel) (Nat.le_of_ble_eq_true rfl) (show Eg MX5_setLawWords 1 0 0 (none, u') 0 [(0, .ref a0), (1, .ref a1), (2, .int x2), (3, .int x3)] [] u from ?_)
  unfold fX5_setLawWords at h
  refine E_aload_n dX5_setLawWords_0 rfl rfl ?_
  refine E_getA h dX5_setLawWords_1 cf5 lk_X5_15 (by decide) (fun _ _ _ => rfl) (fun e1 h => ?_)
  refine E_iconst (v := 0) dX5_setLawWords_4 (by decide) ?_
  refine E_iload_n dX5_setLawWords_5 rfl rfl ?_
  refine E_iast h dX5_setLawWords_6 (fun h => ?_)
  refine E_oU h (fun u2 h => ?_)
  refine E_aload_n dX5_setLawWords_7 rfl rfl ?_
  refine E_getA h dX5_setLawWords_8 cf5 lk_X5_15 (by decide) (fun _ _ _ => rfl) (fun e3 h => ?_)
  refine E_iconst (v := 1) dX5_setLawWords_11 (by decide) ?_
  refine E_iconst (v := (-1)) dX5_setLawWords_12 (by decide) ?_
  refine E_iast h dX5_setLawWords_13 (fun h => ?_)
  refine E_oU h (fun u4 h => ?_)
  refine E_aload_n dX5_setLawWords_14 rfl rfl ?_
  refine E_getA h dX5_setLawWords_15 cf5 lk_X5_15 (by decide) (fun _ _ _ => rfl) (fun e5 h => ?_)
  refine E_iconst (v := 2) dX5_setLawWords_18 (by decide) ?_
  refine E_iconst (v := (-1)) dX5_setLawWords_19 (by decide) ?_
  refine E_iast h dX5_setLawWords_20 (fun h => ?_)
  refine E_oU h (fun u6 h => ?_)
  refine E_aload_n dX5_setLawWords_21 rfl rfl ?_
  refine E_getA h dX5_setLawWords_22 cf5 lk_X5_15 (by decide) (fun _ _ _ => rfl) (fun e7 h => ?_)
  refine E_iconst (v := 3) dX5_setLawWords_25 (by decide) ?_
  refine E_iconst (v := (-1)) dX5_setLawWords_26 (by decide) ?_
  refine E_iast h dX5_setLawWords_27 (fun h => ?_)
  refine E_oU h (fun u8 h => ?_)
  refine E_aload_n dX5_setLawWords_28 rfl rfl ?_
  refine E_getA h dX5_setLawWords_29 cf5 lk_X5_15 (by decide) (fun _ _ _ => rfl) (fun e9 h => ?_)
  refine E_iconst (v := 4) dX5_setLawWords_32 (by decide) ?_
  refine E_iconst (v := (-1)) dX5_setLawWords_33 (by decide) ?_
  refine E_iast h dX5_setLawWords_34 (fun h => ?_)
  refine E_oU h (fun u10 h => ?_)
  refine E_aload_n dX5_setLawWords_35 rfl rfl ?_
  refine E_getA h dX5_setLawWords_36 cf5 lk_X5_15 (by decide) (fun _ _ _ => rfl) (fun e11 h => ?_)
  refine E_iconst (v := 5) dX5_setLawWords_39 (by decide) ?_
  refine E_aload_n dX5_setLawWords_40 rfl rfl ?_
  refine E_iload_n dX5_setLawWords_41 rfl rfl ?_
  refine F_Vi h (fun a m e => tX1_supplyOf e) dX5_setLawWords_42 hm_X1_supplyOf hv_X1_supplyOf ln_X5_29 rfl rfl (Nat.le_of_ble_eq_true rfl) (Nat.le_of_ble_eq_true rfl) (kc' := 0) (ks' := 0) rfl rfl (fun v12 u13 h => ?_)
  refine E_iast h dX5_setLawWords_45 (fun h => ?_)
  refine E_oU h (fun u14 h => ?_)
  refine E_aload_n dX5_setLawWords_46 rfl rfl ?_
  refine E_getA h dX5_setLawWords_47 cf5 lk_X5_15 (by decide) (fun _ _ _ => rfl) (fun e15 h => ?_)
  refine E_bipush (v := 6) dX5_setLawWords_50 (by decide) ?_
  refine E_aload_n dX5_setLawWords_52 rfl rfl ?_
  refine E_iload_n dX5_setLawWords_53 rfl rfl ?_
  refine F_Vi h (fun a m e => tX1_temperOf e) dX5_setLawWords_54 hm_X1_temperOf hv_X1_temperOf ln_X5_32 rfl rfl (Nat.le_of_ble_eq_true rfl) (Nat.le_of_ble_eq_true rfl) (kc' := 0) (ks' := 0) rfl rfl (fun v16 u17 h => ?_)
  refine E_iast h dX5_setLawWords_57 (fun h => ?_)
  refine E_oU h (fun u18 h => ?_)
  refine E_aload_n dX5_setLawWords_58 rfl rfl ?_
  refine E_getA h dX5_setLawWords_59 cf5 lk_X5_15 (by decide) (fun _ _ _ => rfl) (fun e19 h => ?_)
  refine E_bipush (v := 7) dX5_setLawWords_62 (by decide) ?_
  refine E_iconst (v := (-1)) dX5_setLawWords_64 (by decide) ?_
  refine E_iast h dX5_setLawWords_65 (fun h => ?_)
  refine E_oU h (fun u20 h => ?_)
  refine E_aload_n dX5_setLawWords_66 rfl rfl ?_
  refine E_getA h dX5_setLawWords_67 cf5 lk_X5_15 (by decide) (fun _ _ _ => rfl) (fun e21 h => ?_)
  refine E_bipush (v := 8) dX5_setLawWords_70 (by decide) ?_
  refine E_aload_n dX5_setLawWords_72 rfl rfl ?_
  refine F_Vi h (fun a m e => tX1_theDay e) dX5_setLawWords_73 hm_X1_theDay hv_X1_theDay ln_X5_19 rfl rfl (Nat.le_of_ble_eq_true rfl) (Nat.le_of_ble_eq_true rfl) (kc' := 0) (ks' := 0) rfl rfl (fun v22 u23 h => ?_)
  refine E_iast h dX5_setLawWords_76 (fun h => ?_)
  refine E_oU h (fun u24 h => ?_)
  refine E_aload_n dX5_setLawWords_77 rfl rfl ?_
  refine E_getA h dX5_setLawWords_78 cf5 lk_X5_15 (by decide) (fun _ _ _ => rfl) (fun e25 h => ?_)
  refine E_bipush (v := 9) dX5_setLawWords_81 (by decide) ?_
  refine E_iload_n dX5_setLawWords_83 rfl rfl ?_
  refine E_iast h dX5_setLawWords_84 (fun h => ?_)
  refine E_oU h (fun u26 h => ?_)
  exact E_vret h dX5_setLawWords_85 rfl
def fX5_setColumnWords (u : Mm) (a0 : Nat) (a1 : Nat) (x2 : Int32) (x3 : Int32) : Option (Unit × Mm) := oK u a0 5 2 (oNn (mR u a0 1) (fun e1 => oA u e1 10 1 (oU (wI u e1 (upd (mI u e1) (Int32.toNatClampNeg 1) x3)) (fun u2 => oK u2 a0 5 2 (oNn (mR u2 a0 1) (fun e3 => oR u2 a1 1 (oB (fX1_lineAt u2 a1 x3) (fun v4 u5 => oA u5 e3 10 2 (oU (wI u5 e3 (upd (mI u5 e3) (Int32.toNatClampNeg 2) v4)) (fun u6 => oK u6 a0 5 2 (oNn (mR u6 a0 1) (fun e7 => oR u6 a1 1 (oB (fX1_menAt u6 a1 x2 x3) (fun v8 u9 => oA u9 e7 10 3 (oU (wI u9 e7 (upd (mI u9 e7) (Int32.toNatClampNeg 3) v8)) (fun u10 => oK u10 a0 5 2 (oNn (mR u10 a0 1) (fun e11 => oR u10 a1 1 (oB (fX1_menAt u10 a1 ((1 : Int32) - x2) x3) (fun v12 u13 => oA u13 e11 10 4 (oU (wI u13 e11 (upd (mI u13 e11) (Int32.toNatClampNeg 4) v12)) (fun u14 => some ((), u14)))))))))))))))))))))))
set_option maxRecDepth 100000 in
set_option maxHeartbeats 4000000 in
theorem tX5_setColumnWords {u : Mm} {a0 : Nat} {a1 : Nat} {x2 : Int32} {x3 : Int32} {r : Unit} {u' : Mm} (h : fX5_setColumnWords u a0 a1 x2 x3 = some (r, u')) : Ev 1 MX5_setColumnWords 0 0 [.ref a0, .ref a1, .int x2, .int x3] u (none, u') := by
  refine Ev.of (by decide +kernel) (Nat.le_of_ble_eq_true rfl) (show Eg MX5_setColumnWords 1 0 0 (none, u') 0 [(0, .ref a0), (1, .ref a1), (2, .int x2), (3, .int x3)] [] u from ?_)
  unfold fX5_setColumnWords at h
  refine E_aload_n dX5_setColumnWords_0 rfl rfl ?_
  refine E_getA h dX5_setColumnWords_1 cf5 lk_X5_15 (by decide) (fun _ _ _ => rfl) (fun e1 h => ?_)
  refine E_iconst (v := 1) dX5_setColumnWords_4 (by decide) ?_
  refine E_iload_n dX5_setColumnWords_5 rfl rfl ?_
  refine E_iast h dX5_setColumnWords_6 (fun h => ?_)
  refine E_oU h (fun u2 h => ?_)
  refine E_aload_n dX5_setColumnWords_7 rfl rfl ?_
  refine E_getA h dX5_setColumnWords_8 cf5 lk_X5_15 (by decide) (fun _ _ _ => rfl) (fun e3 h => ?_)
  refine E_iconst (v := 2) dX5_setColumnWords_11 (by decide) ?_
  refine E_aload_n dX5_setColumnWords_12 rfl rfl ?_
  refine E_iload_n dX5_setColumnWords_13 rfl rfl ?_
  refine F_Vi h (fun a m e => tX1_lineAt e) dX5_setColumnWords_14 hm_X1_lineAt hv_X1_lineAt ln_X5_25 rfl rfl (Nat.le_of_ble_eq_true rfl) (Nat.le_of_ble_eq_true rfl) (kc' := 0) (ks' := 0) rfl rfl (fun v4 u5 h => ?_)
  refine E_iast h dX5_setColumnWords_17 (fun h => ?_)
  refine E_oU h (fun u6 h => ?_)
  refine E_aload_n dX5_setColumnWords_18 rfl rfl ?_
  refine E_getA h dX5_setColumnWords_19 cf5 lk_X5_15 (by decide) (fun _ _ _ => rfl) (fun e7 h => ?_)
  refine E_iconst (v := 3) dX5_setColumnWords_22 (by decide) ?_
  refine E_aload_n dX5_setColumnWords_23 rfl rfl ?_
  refine E_iload_n dX5_setColumnWords_24 rfl rfl ?_
  refine E_iload_n dX5_setColumnWords_25 rfl rfl ?_
  refine F_Vi h (fun a m e => tX1_menAt e) dX5_setColumnWords_26 hm_X1_menAt hv_X1_menAt ln_X5_35 rfl rfl (Nat.le_of_ble_eq_true rfl) (Nat.le_of_ble_eq_true rfl) (kc' := 0) (ks' := 0) rfl rfl (fun v8 u9 h => ?_)
  refine E_iast h dX5_setColumnWords_29 (fun h => ?_)
  refine E_oU h (fun u10 h => ?_)
  refine E_aload_n dX5_setColumnWords_30 rfl rfl ?_
  refine E_getA h dX5_setColumnWords_31 cf5 lk_X5_15 (by decide) (fun _ _ _ => rfl) (fun e11 h => ?_)
  refine E_iconst (v := 4) dX5_setColumnWords_34 (by decide) ?_
  refine E_aload_n dX5_setColumnWords_35 rfl rfl ?_
  refine E_iconst (v := 1) dX5_setColumnWords_36 (by decide) ?_
  refine E_iload_n dX5_setColumnWords_37 rfl rfl ?_
  refine E_isub dX5_setColumnWords_38 ?_
  refine E_iload_n dX5_setColumnWords_39 rfl rfl ?_
  refine F_Vi h (fun a m e => tX1_menAt e) dX5_setColumnWords_40 hm_X1_menAt hv_X1_menAt ln_X5_35 rfl rfl (Nat.le_of_ble_eq_true rfl) (Nat.le_of_ble_eq_true rfl) (kc' := 0) (ks' := 0) rfl rfl (fun v12 u13 h => ?_)
  refine E_iast h dX5_setColumnWords_43 (fun h => ?_)
  refine E_oU h (fun u14 h => ?_)
  exact E_vret h dX5_setColumnWords_44 rfl
def bX5_joined_54 (u : Mm) : Option (Int64 × Mm) := some (4000000000, u)
set_option maxRecDepth 100000 in
set_option maxHeartbeats 4000000 in
theorem pX5_joined_54 {r : Int64} {u' : Mm} (u : Mm) (h : bX5_joined_54 u = some (r, u')) : Eg MX5_joined 0 0 0 (some (.long r), u') 54 [] [] u := by
  unfold bX5_joined_54 at h
  refine E_ldc2 dX5_joined_54 rfl cn_X5_55 ?_
  exact E_lret h dX5_joined_57 rfl
def bX5_joined_322 (u : Mm) (s0 : Int64) : Option (Int64 × Mm) := some (s0, u)
set_option maxRecDepth 100000 in
set_option maxHeartbeats 4000000 in
theorem pX5_joined_322 {r : Int64} {u' : Mm} (u : Mm) (s0 : Int64) (h : bX5_joined_322 u s0 = some (r, u')) : Eg MX5_joined 0 0 0 (some (.long r), u') 322 [] [.long s0] u := by
  unfold bX5_joined_322 at h
  exact E_lret h dX5_joined_322 rfl
def bX5_joined_314 (u : Mm) : Option (Int64 × Mm) := bX5_joined_322 u 4000000000
set_option maxRecDepth 100000 in
set_option maxHeartbeats 4000000 in
theorem pX5_joined_314 {r : Int64} {u' : Mm} (u : Mm) (h : bX5_joined_314 u = some (r, u')) : Eg MX5_joined 0 0 0 (some (.long r), u') 314 [] [] u := by
  unfold bX5_joined_314 at h
  refine E_ldc2 dX5_joined_314 rfl cn_X5_55 ?_
  refine E_goto (tgt := 322) dX5_joined_317 (by decide) ?_
  refine Eg.pick [] rfl ?_
  exact pX5_joined_322 _ _ h
def bX5_joined_296 (u : Mm) (y5 : Int64) : Option (Int64 × Mm) := (if 0 < (lg_cmp y5 1000000000 : Int32) then bX5_joined_314 u else (if 0 ≤ (lg_cmp y5 ((-1000000000)) : Int32) then bX5_joined_322 u y5 else bX5_joined_314 u))
set_option maxRecDepth 100000 in
set_option maxHeartbeats 4000000 in
theorem pX5_joined_296 {r : Int64} {u' : Mm} (u : Mm) (y5 : Int64) (h : bX5_joined_296 u y5 = some (r, u')) : Eg MX5_joined 0 0 0 (some (.long r), u') 296 [(5, .long y5)] [] u := by
  unfold bX5_joined_296 at h
  refine E_lload dX5_joined_296 rfl ?_
  refine E_ldc2 dX5_joined_298 rfl cn_X5_74 ?_
  refine E_lcmp dX5_joined_301 ?_
  refine E_if_gt (tgt := 314) h dX5_joined_302 (by decide) (fun h => ?_) (fun h => ?_)
  · refine Eg.pick [] rfl ?_
    exact pX5_joined_314 _  h
  · refine E_lload dX5_joined_305 rfl ?_
    refine E_ldc2 dX5_joined_307 rfl cn_X5_76 ?_
    refine E_lcmp dX5_joined_310 ?_
    refine E_if_ge (tgt := 320) h dX5_joined_311 (by decide) (fun h => ?_) (fun h => ?_)
    · refine E_lload dX5_joined_320 rfl ?_
      refine Eg.pick [] rfl ?_
      exact pX5_joined_322 _ _ h
    · refine Eg.pick [] rfl ?_
      exact pX5_joined_314 _  h
def bX5_joined_243 (u : Mm) (s0 : Int64) : Option (Int64 × Mm) := bX5_joined_296 u s0
set_option maxRecDepth 100000 in
set_option maxHeartbeats 4000000 in
theorem pX5_joined_243 {r : Int64} {u' : Mm} (u : Mm) (s0 : Int64) (h : bX5_joined_243 u s0 = some (r, u')) : Eg MX5_joined 0 0 0 (some (.long r), u') 243 [] [.long s0] u := by
  unfold bX5_joined_243 at h
  refine E_lstore (l' := [(5, .long s0)]) dX5_joined_243 (Nat.le_of_ble_eq_true rfl) rfl ?_
  refine E_goto (tgt := 296) dX5_joined_245 (by decide) ?_
  refine Eg.pick [0] rfl ?_
  exact pX5_joined_296 _ _ h
def bX5_joined_223 (u : Mm) (s0 : Int64) : Option (Int64 × Mm) := bX5_joined_296 u s0
set_option maxRecDepth 100000 in
set_option maxHeartbeats 4000000 in
theorem pX5_joined_223 {r : Int64} {u' : Mm} (u : Mm) (s0 : Int64) (h : bX5_joined_223 u s0 = some (r, u')) : Eg MX5_joined 0 0 0 (some (.long r), u') 223 [] [.long s0] u := by
  unfold bX5_joined_223 at h
  refine E_lstore (l' := [(5, .long s0)]) dX5_joined_223 (Nat.le_of_ble_eq_true rfl) rfl ?_
  refine E_goto (tgt := 296) dX5_joined_225 (by decide) ?_
  refine Eg.pick [0] rfl ?_
  exact pX5_joined_296 _ _ h
def bX5_joined_259 (u : Mm) (s0 : Int64) : Option (Int64 × Mm) := bX5_joined_296 u s0
set_option maxRecDepth 100000 in
set_option maxHeartbeats 4000000 in
theorem pX5_joined_259 {r : Int64} {u' : Mm} (u : Mm) (s0 : Int64) (h : bX5_joined_259 u s0 = some (r, u')) : Eg MX5_joined 0 0 0 (some (.long r), u') 259 [] [.long s0] u := by
  unfold bX5_joined_259 at h
  refine E_lstore (l' := [(5, .long s0)]) dX5_joined_259 (Nat.le_of_ble_eq_true rfl) rfl ?_
  refine E_goto (tgt := 296) dX5_joined_261 (by decide) ?_
  refine Eg.pick [0] rfl ?_
  exact pX5_joined_296 _ _ h
def bX5_joined_291 (u : Mm) (s0 : Int64) : Option (Int64 × Mm) := bX5_joined_296 u s0
set_option maxRecDepth 100000 in
set_option maxHeartbeats 4000000 in
theorem pX5_joined_291 {r : Int64} {u' : Mm} (u : Mm) (s0 : Int64) (h : bX5_joined_291 u s0 = some (r, u')) : Eg MX5_joined 0 0 0 (some (.long r), u') 291 [] [.long s0] u := by
  unfold bX5_joined_291 at h
  refine E_lstore (l' := [(5, .long s0)]) dX5_joined_291 (Nat.le_of_ble_eq_true rfl) rfl ?_
  refine E_goto (tgt := 296) dX5_joined_293 (by decide) ?_
  refine Eg.pick [0] rfl ?_
  exact pX5_joined_296 _ _ h
def bX5_joined_275 (u : Mm) (s0 : Int64) : Option (Int64 × Mm) := bX5_joined_296 u s0
set_option maxRecDepth 100000 in
set_option maxHeartbeats 4000000 in
theorem pX5_joined_275 {r : Int64} {u' : Mm} (u : Mm) (s0 : Int64) (h : bX5_joined_275 u s0 = some (r, u')) : Eg MX5_joined 0 0 0 (some (.long r), u') 275 [] [.long s0] u := by
  unfold bX5_joined_275 at h
  refine E_lstore (l' := [(5, .long s0)]) dX5_joined_275 (Nat.le_of_ble_eq_true rfl) rfl ?_
  refine E_goto (tgt := 296) dX5_joined_277 (by decide) ?_
  refine Eg.pick [0] rfl ?_
  exact pX5_joined_296 _ _ h
def bX5_joined_37 (u : Mm) (s0 : Int64) : Option (Int64 × Mm) := some (s0, u)
set_option maxRecDepth 100000 in
set_option maxHeartbeats 4000000 in
theorem pX5_joined_37 {r : Int64} {u' : Mm} (u : Mm) (s0 : Int64) (h : bX5_joined_37 u s0 = some (r, u')) : Eg MX5_joined 0 0 0 (some (.long r), u') 37 [] [.long s0] u := by
  unfold bX5_joined_37 at h
  exact E_lret h dX5_joined_37 rfl
def bX5_joined_18 (u : Mm) (s0 : Int64) : Option (Int64 × Mm) := some (s0, u)
set_option maxRecDepth 100000 in
set_option maxHeartbeats 4000000 in
theorem pX5_joined_18 {r : Int64} {u' : Mm} (u : Mm) (s0 : Int64) (h : bX5_joined_18 u s0 = some (r, u')) : Eg MX5_joined 0 0 0 (some (.long r), u') 18 [] [.long s0] u := by
  unfold bX5_joined_18 at h
  exact E_lret h dX5_joined_18 rfl
def fX5_joined (u : Mm) (x0 : Int32) (y1 : Int64) (y3 : Int64) : Option (Int64 × Mm) := (if (x0 : Int32) = 269 then (if (lg_cmp y1 0 : Int32) = 0 then bX5_joined_18 u y3 else bX5_joined_18 u y1) else (if (x0 : Int32) = 270 then (if (lg_cmp y1 1 : Int32) = 0 then bX5_joined_37 u y3 else bX5_joined_37 u y1) else (if (lg_cmp y1 4000000000 : Int32) = 0 then bX5_joined_54 u else (if (lg_cmp y3 4000000000 : Int32) = 0 then bX5_joined_54 u else (if (x0 : Int32) = 37 then (if (lg_cmp y3 0 : Int32) = 0 then bX5_joined_243 u 4000000000 else (if (y3 : Int64) ≠ 0 then bX5_joined_243 u (y1 - y1 / y3 * y3) else none)) else (if (x0 : Int32) = 42 then oJ (y1 * y3) (fun w1 => bX5_joined_296 u w1) else (if (x0 : Int32) = 43 then oJ (y1 + y3) (fun w2 => bX5_joined_296 u w2) else (if (x0 : Int32) = 45 then oJ (y1 - y3) (fun w3 => bX5_joined_296 u w3) else (if (x0 : Int32) = 47 then (if (lg_cmp y3 0 : Int32) = 0 then bX5_joined_223 u 4000000000 else (if (y3 : Int64) ≠ 0 then bX5_joined_223 u (y1 / y3) else none)) else (if (x0 : Int32) = 60 then (if 0 ≤ (lg_cmp y1 y3 : Int32) then bX5_joined_259 u 0 else bX5_joined_259 u 1) else (if (x0 : Int32) = 61 then (if (lg_cmp y1 y3 : Int32) = 0 then bX5_joined_291 u 1 else bX5_joined_291 u 0) else (if (x0 : Int32) = 62 then (if (lg_cmp y1 y3 : Int32) ≤ 0 then bX5_joined_275 u 0 else bX5_joined_275 u 1) else bX5_joined_296 u 4000000000))))))))))))
set_option maxRecDepth 100000 in
set_option maxHeartbeats 4000000 in
theorem tX5_joined {u : Mm} {x0 : Int32} {y1 : Int64} {y3 : Int64} {r : Int64} {u' : Mm} (h : fX5_joined u x0 y1 y3 = some (r, u')) : Ev 0 MX5_joined 0 0 [.int x0, .long y1, .long y3] u (some (.long r), u') := by
  refine Ev.of (by decide +kernel) (Nat.le_of_ble_eq_true rfl) (show Eg MX5_joined 0 0 0 (some (.long r), u') 0 [(0, .int x0), (1, .long y1), (3, .long y3)] [] u from ?_)
  unfold fX5_joined at h
  refine E_iload_n dX5_joined_0 rfl rfl ?_
  refine E_sipush (v := 269) dX5_joined_1 (by decide) ?_
  refine E_ic_ne (tgt := 19) h dX5_joined_4 (by decide) (fun h => ?_) (fun h => ?_)
  · refine E_iload_n dX5_joined_19 rfl rfl ?_
    refine E_sipush (v := 270) dX5_joined_20 (by decide) ?_
    refine E_ic_ne (tgt := 38) h dX5_joined_23 (by decide) (fun h => ?_) (fun h => ?_)
    · refine E_lload_n dX5_joined_38 rfl rfl ?_
      refine E_ldc2 dX5_joined_39 rfl cn_X5_55 ?_
      refine E_lcmp dX5_joined_42 ?_
      refine E_if_eq (tgt := 54) h dX5_joined_43 (by decide) (fun h => ?_) (fun h => ?_)
      · refine Eg.pick [] rfl ?_
        exact pX5_joined_54 _  h
      · refine E_lload_n dX5_joined_46 rfl rfl ?_
        refine E_ldc2 dX5_joined_47 rfl cn_X5_55 ?_
        refine E_lcmp dX5_joined_50 ?_
        refine E_if_ne (tgt := 58) h dX5_joined_51 (by decide) (fun h => ?_) (fun h => ?_)
        · refine E_ldc2 dX5_joined_58 rfl cn_X5_55 ?_
          refine E_lstore (l' := [(5, .long 4000000000), (0, .int x0), (1, .long y1), (3, .long y3)]) dX5_joined_61 (Nat.le_of_ble_eq_true rfl) rfl ?_
          refine E_iload_n dX5_joined_63 rfl rfl ?_
          refine ite_cases h (fun c64_0 h => ?_) (fun c64_0 h => ?_)
          · refine E_tabIn (off := 164) (tgt := 228) dX5_joined_64 c64_0 (by decide +kernel) (by decide +kernel) (by decide +kernel) (by decide) ?_
            refine E_lload_n dX5_joined_228 rfl rfl ?_
            refine E_lconst (v := 0) dX5_joined_229 (by decide) ?_
            refine E_lcmp dX5_joined_230 ?_
            refine E_if_ne (tgt := 240) h dX5_joined_231 (by decide) (fun h => ?_) (fun h => ?_)
            · refine E_lload_n dX5_joined_240 rfl rfl ?_
              refine E_lload_n dX5_joined_241 rfl rfl ?_
              refine E_lrem h dX5_joined_242 (fun h => ?_)
              refine Eg.pick [] rfl ?_
              exact pX5_joined_243 _ _ h
            · refine E_ldc2 dX5_joined_234 rfl cn_X5_55 ?_
              refine E_goto (tgt := 243) dX5_joined_237 (by decide) ?_
              refine Eg.pick [] rfl ?_
              exact pX5_joined_243 _ _ h
          · refine ite_cases h (fun c64_1 h => ?_) (fun c64_1 h => ?_)
            · refine E_tabIn (off := 136) (tgt := 200) dX5_joined_64 c64_1 (by decide +kernel) (by decide +kernel) (by decide +kernel) (by decide) ?_
              refine E_lload_n dX5_joined_200 rfl rfl ?_
              refine E_lload_n dX5_joined_201 rfl rfl ?_
              refine E_lmul dX5_joined_202 ?_
              refine E_oJ h (fun w1 h => ?_)
              refine E_lstore (l' := [(5, .long w1), (0, .int x0), (1, .long y1), (3, .long y3)]) dX5_joined_203 (Nat.le_of_ble_eq_true rfl) rfl ?_
              refine E_goto (tgt := 296) dX5_joined_205 (by decide) ?_
              refine Eg.pick [0] rfl ?_
              exact pX5_joined_296 _ _ h
            · refine ite_cases h (fun c64_2 h => ?_) (fun c64_2 h => ?_)
              · refine E_tabIn (off := 120) (tgt := 184) dX5_joined_64 c64_2 (by decide +kernel) (by decide +kernel) (by decide +kernel) (by decide) ?_
                refine E_lload_n dX5_joined_184 rfl rfl ?_
                refine E_lload_n dX5_joined_185 rfl rfl ?_
                refine E_ladd dX5_joined_186 ?_
                refine E_oJ h (fun w2 h => ?_)
                refine E_lstore (l' := [(5, .long w2), (0, .int x0), (1, .long y1), (3, .long y3)]) dX5_joined_187 (Nat.le_of_ble_eq_true rfl) rfl ?_
                refine E_goto (tgt := 296) dX5_joined_189 (by decide) ?_
                refine Eg.pick [0] rfl ?_
                exact pX5_joined_296 _ _ h
              · refine ite_cases h (fun c64_3 h => ?_) (fun c64_3 h => ?_)
                · refine E_tabIn (off := 128) (tgt := 192) dX5_joined_64 c64_3 (by decide +kernel) (by decide +kernel) (by decide +kernel) (by decide) ?_
                  refine E_lload_n dX5_joined_192 rfl rfl ?_
                  refine E_lload_n dX5_joined_193 rfl rfl ?_
                  refine E_lsub dX5_joined_194 ?_
                  refine E_oJ h (fun w3 h => ?_)
                  refine E_lstore (l' := [(5, .long w3), (0, .int x0), (1, .long y1), (3, .long y3)]) dX5_joined_195 (Nat.le_of_ble_eq_true rfl) rfl ?_
                  refine E_goto (tgt := 296) dX5_joined_197 (by decide) ?_
                  refine Eg.pick [0] rfl ?_
                  exact pX5_joined_296 _ _ h
                · refine ite_cases h (fun c64_4 h => ?_) (fun c64_4 h => ?_)
                  · refine E_tabIn (off := 144) (tgt := 208) dX5_joined_64 c64_4 (by decide +kernel) (by decide +kernel) (by decide +kernel) (by decide) ?_
                    refine E_lload_n dX5_joined_208 rfl rfl ?_
                    refine E_lconst (v := 0) dX5_joined_209 (by decide) ?_
                    refine E_lcmp dX5_joined_210 ?_
                    refine E_if_ne (tgt := 220) h dX5_joined_211 (by decide) (fun h => ?_) (fun h => ?_)
                    · refine E_lload_n dX5_joined_220 rfl rfl ?_
                      refine E_lload_n dX5_joined_221 rfl rfl ?_
                      refine E_ldiv h dX5_joined_222 (fun h => ?_)
                      refine Eg.pick [] rfl ?_
                      exact pX5_joined_223 _ _ h
                    · refine E_ldc2 dX5_joined_214 rfl cn_X5_55 ?_
                      refine E_goto (tgt := 223) dX5_joined_217 (by decide) ?_
                      refine Eg.pick [] rfl ?_
                      exact pX5_joined_223 _ _ h
                  · refine ite_cases h (fun c64_5 h => ?_) (fun c64_5 h => ?_)
                    · refine E_tabIn (off := 184) (tgt := 248) dX5_joined_64 c64_5 (by decide +kernel) (by decide +kernel) (by decide +kernel) (by decide) ?_
                      refine E_lload_n dX5_joined_248 rfl rfl ?_
                      refine E_lload_n dX5_joined_249 rfl rfl ?_
                      refine E_lcmp dX5_joined_250 ?_
                      refine E_if_ge (tgt := 258) h dX5_joined_251 (by decide) (fun h => ?_) (fun h => ?_)
                      · refine E_lconst (v := 0) dX5_joined_258 (by decide) ?_
                        refine Eg.pick [] rfl ?_
                        exact pX5_joined_259 _ _ h
                      · refine E_lconst (v := 1) dX5_joined_254 (by decide) ?_
                        refine E_goto (tgt := 259) dX5_joined_255 (by decide) ?_
                        refine Eg.pick [] rfl ?_
                        exact pX5_joined_259 _ _ h
                    · refine ite_cases h (fun c64_6 h => ?_) (fun c64_6 h => ?_)
                      · refine E_tabIn (off := 216) (tgt := 280) dX5_joined_64 c64_6 (by decide +kernel) (by decide +kernel) (by decide +kernel) (by decide) ?_
                        refine E_lload_n dX5_joined_280 rfl rfl ?_
                        refine E_lload_n dX5_joined_281 rfl rfl ?_
                        refine E_lcmp dX5_joined_282 ?_
                        refine E_if_ne (tgt := 290) h dX5_joined_283 (by decide) (fun h => ?_) (fun h => ?_)
                        · refine E_lconst (v := 0) dX5_joined_290 (by decide) ?_
                          refine Eg.pick [] rfl ?_
                          exact pX5_joined_291 _ _ h
                        · refine E_lconst (v := 1) dX5_joined_286 (by decide) ?_
                          refine E_goto (tgt := 291) dX5_joined_287 (by decide) ?_
                          refine Eg.pick [] rfl ?_
                          exact pX5_joined_291 _ _ h
                      · refine ite_cases h (fun c64_7 h => ?_) (fun c64_7 h => ?_)
                        · refine E_tabIn (off := 200) (tgt := 264) dX5_joined_64 c64_7 (by decide +kernel) (by decide +kernel) (by decide +kernel) (by decide) ?_
                          refine E_lload_n dX5_joined_264 rfl rfl ?_
                          refine E_lload_n dX5_joined_265 rfl rfl ?_
                          refine E_lcmp dX5_joined_266 ?_
                          refine E_if_le (tgt := 274) h dX5_joined_267 (by decide) (fun h => ?_) (fun h => ?_)
                          · refine E_lconst (v := 0) dX5_joined_274 (by decide) ?_
                            refine Eg.pick [] rfl ?_
                            exact pX5_joined_275 _ _ h
                          · refine E_lconst (v := 1) dX5_joined_270 (by decide) ?_
                            refine E_goto (tgt := 275) dX5_joined_271 (by decide) ?_
                            refine Eg.pick [] rfl ?_
                            exact pX5_joined_275 _ _ h
                        · refine E_tabD (tgt := 296) [37, 42, 43, 45, 47, 60, 61, 62] dX5_joined_64 (by intro k hk; simp only [List.mem_cons, List.not_mem_nil, or_false] at hk; rcases hk with rfl | rfl | rfl | rfl | rfl | rfl | rfl | rfl <;> first | exact ne_lit (by decide +kernel) c64_0 | exact ne_lit (by decide +kernel) c64_1 | exact ne_lit (by decide +kernel) c64_2 | exact ne_lit (by decide +kernel) c64_3 | exact ne_lit (by decide +kernel) c64_4 | exact ne_lit (by decide +kernel) c64_5 | exact ne_lit (by decide +kernel) c64_6 | exact ne_lit (by decide +kernel) c64_7) (by decide +kernel) (by decide) ?_
                          refine Eg.pick [0] rfl ?_
                          exact pX5_joined_296 _ _ h
        · refine Eg.pick [] rfl ?_
          exact pX5_joined_54 _  h
    · refine E_lload_n dX5_joined_26 rfl rfl ?_
      refine E_lconst (v := 1) dX5_joined_27 (by decide) ?_
      refine E_lcmp dX5_joined_28 ?_
      refine E_if_ne (tgt := 36) h dX5_joined_29 (by decide) (fun h => ?_) (fun h => ?_)
      · refine E_lload_n dX5_joined_36 rfl rfl ?_
        refine Eg.pick [] rfl ?_
        exact pX5_joined_37 _ _ h
      · refine E_lload_n dX5_joined_32 rfl rfl ?_
        refine E_goto (tgt := 37) dX5_joined_33 (by decide) ?_
        refine Eg.pick [] rfl ?_
        exact pX5_joined_37 _ _ h
  · refine E_lload_n dX5_joined_7 rfl rfl ?_
    refine E_lconst (v := 0) dX5_joined_8 (by decide) ?_
    refine E_lcmp dX5_joined_9 ?_
    refine E_if_ne (tgt := 17) h dX5_joined_10 (by decide) (fun h => ?_) (fun h => ?_)
    · refine E_lload_n dX5_joined_17 rfl rfl ?_
      refine Eg.pick [] rfl ?_
      exact pX5_joined_18 _ _ h
    · refine E_lload_n dX5_joined_13 rfl rfl ?_
      refine E_goto (tgt := 18) dX5_joined_14 (by decide) ?_
      refine Eg.pick [] rfl ?_
      exact pX5_joined_18 _ _ h
def bX5_valueOf_232 (u : Mm) (s0 : Int64) : Option (Int64 × Mm) := some (s0, u)
set_option maxRecDepth 100000 in
set_option maxHeartbeats 4000000 in
theorem pX5_valueOf_232 {r : Int64} {u' : Mm} (u : Mm) (s0 : Int64) (h : bX5_valueOf_232 u s0 = some (r, u')) : Eg MX5_valueOf 1 0 0 (some (.long r), u') 232 [] [.long s0] u := by
  unfold bX5_valueOf_232 at h
  exact E_lret h dX5_valueOf_232 rfl
def bX5_valueOf_216 (u : Mm) (a0 : Nat) (x3 : Int32) : Option (Int64 × Mm) := (if (x3 : Int32) = 0 then oK u a0 5 2 (oNn (mR u a0 0) (fun e2 => oA u e2 11 0 (oJ (mL u e2 (Int32.toNatClampNeg 0)) (fun w3 => bX5_valueOf_232 u w3)))) else bX5_valueOf_232 u 4000000000)
set_option maxRecDepth 100000 in
set_option maxHeartbeats 4000000 in
theorem pX5_valueOf_216 {r : Int64} {u' : Mm} (u : Mm) (a0 : Nat) (x3 : Int32) (h : bX5_valueOf_216 u a0 x3 = some (r, u')) : Eg MX5_valueOf 1 0 0 (some (.long r), u') 216 [(0, .ref a0), (3, .int x3)] [] u := by
  unfold bX5_valueOf_216 at h
  refine E_iload_n dX5_valueOf_216 rfl rfl ?_
  refine E_if_ne (tgt := 229) h dX5_valueOf_217 (by decide) (fun h => ?_) (fun h => ?_)
  · refine E_ldc2 dX5_valueOf_229 rfl cn_X5_55 ?_
    refine Eg.pick [] rfl ?_
    exact pX5_valueOf_232 _ _ h
  · refine E_aload_n dX5_valueOf_220 rfl rfl ?_
    refine E_getA h dX5_valueOf_221 cf5 lk_X5_9 (by decide) (fun _ _ _ => rfl) (fun e2 h => ?_)
    refine E_iconst (v := 0) dX5_valueOf_224 (by decide) ?_
    refine E_lald h dX5_valueOf_225 (fun h => ?_)
    refine E_oJ h (fun w3 h => ?_)
    refine E_goto (tgt := 232) dX5_valueOf_226 (by decide) ?_
    refine Eg.pick [] rfl ?_
    exact pX5_valueOf_232 _ _ h
def bX5_valueOf_210 (k11 : Mm → Nat → Nat → Int32 → Int32 → Option (Int64 × Mm)) (u : Mm) (a0 : Nat) (a1 : Nat) (x3 : Int32) (x4 : Int32) : Option (Int64 × Mm) := k11 u a0 a1 x3 (x4 + 1)
set_option maxRecDepth 100000 in
set_option maxHeartbeats 4000000 in
theorem pX5_valueOf_210 {r : Int64} {u' : Mm} {k11 : Mm → Nat → Nat → Int32 → Int32 → Option (Int64 × Mm)} (hk11 : ∀ (u : Mm) (a0 : Nat) (a1 : Nat) (x3 : Int32) (x4 : Int32), k11 u a0 a1 x3 x4 = some (r, u') → Eg MX5_valueOf 1 0 0 (some (.long r), u') 11 [(0, .ref a0), (1, .ref a1), (3, .int x3), (4, .int x4)] [] u) (u : Mm) (a0 : Nat) (a1 : Nat) (x3 : Int32) (x4 : Int32) (h : bX5_valueOf_210 k11 u a0 a1 x3 x4 = some (r, u')) : Eg MX5_valueOf 1 0 0 (some (.long r), u') 210 [(0, .ref a0), (1, .ref a1), (3, .int x3), (4, .int x4)] [] u := by
  unfold bX5_valueOf_210 at h
  refine E_iinc (j := 3) (v := x4 + 1) (l' := [(4, .int (x4 + 1)), (0, .ref a0), (1, .ref a1), (3, .int x3)]) dX5_valueOf_210 rfl (addI (by decide)) (Nat.le_of_ble_eq_true rfl) rfl ?_
  refine E_goto (tgt := 11) dX5_valueOf_213 (by decide) ?_
  refine Eg.pick [1, 2, 3, 0] rfl ?_
  exact hk11 _ _ _ _ _ h
def bX5_valueOf_131 (k11 : Mm → Nat → Nat → Int32 → Int32 → Option (Int64 × Mm)) (u : Mm) (a0 : Nat) (a1 : Nat) (x3 : Int32) (x4 : Int32) (s0 : Int64) (s1 : Int32) (s2 : Nat) : Option (Int64 × Mm) := oA u s2 11 s1 (oU (wL u s2 (vp_updL (mL u s2) (Int32.toNatClampNeg s1) s0)) (fun u12 => bX5_valueOf_210 k11 u12 a0 a1 x3 x4))
set_option maxRecDepth 100000 in
set_option maxHeartbeats 4000000 in
theorem pX5_valueOf_131 {r : Int64} {u' : Mm} {k11 : Mm → Nat → Nat → Int32 → Int32 → Option (Int64 × Mm)} (hk11 : ∀ (u : Mm) (a0 : Nat) (a1 : Nat) (x3 : Int32) (x4 : Int32), k11 u a0 a1 x3 x4 = some (r, u') → Eg MX5_valueOf 1 0 0 (some (.long r), u') 11 [(0, .ref a0), (1, .ref a1), (3, .int x3), (4, .int x4)] [] u) (u : Mm) (a0 : Nat) (a1 : Nat) (x3 : Int32) (x4 : Int32) (s0 : Int64) (s1 : Int32) (s2 : Nat) (h : bX5_valueOf_131 k11 u a0 a1 x3 x4 s0 s1 s2 = some (r, u')) : Eg MX5_valueOf 1 0 0 (some (.long r), u') 131 [(0, .ref a0), (1, .ref a1), (3, .int x3), (4, .int x4)] [.long s0, .int s1, .ref s2] u := by
  unfold bX5_valueOf_131 at h
  refine E_last h dX5_valueOf_131 (fun h => ?_)
  refine E_oU h (fun u12 h => ?_)
  refine E_goto (tgt := 210) dX5_valueOf_132 (by decide) ?_
  refine Eg.pick [0, 1, 2, 3] rfl ?_
  exact pX5_valueOf_210 hk11 _ _ _ _ _ h
def bX5_valueOf_105 (k11 : Mm → Nat → Nat → Int32 → Int32 → Option (Int64 × Mm)) (u : Mm) (a0 : Nat) (a1 : Nat) (x3 : Int32) (x4 : Int32) (x6 : Int32) (s0 : Int32) : Option (Int64 × Mm) := oK u a0 5 2 (oNn (mR u a0 0) (fun e11 => (if (s0 : Int32) = 0 then bX5_valueOf_131 k11 u a0 a1 x3 x4 (Int32.toInt64 x6) x3 e11 else oK u a0 5 2 (oNn (mR u a0 1) (fun e13 => oA u e13 10 x6 (oI (mI u e13 (Int32.toNatClampNeg x6)) (fun v14 => bX5_valueOf_131 k11 u a0 a1 x3 x4 (Int32.toInt64 v14) x3 e11)))))))
set_option maxRecDepth 100000 in
set_option maxHeartbeats 4000000 in
theorem pX5_valueOf_105 {r : Int64} {u' : Mm} {k11 : Mm → Nat → Nat → Int32 → Int32 → Option (Int64 × Mm)} (hk11 : ∀ (u : Mm) (a0 : Nat) (a1 : Nat) (x3 : Int32) (x4 : Int32), k11 u a0 a1 x3 x4 = some (r, u') → Eg MX5_valueOf 1 0 0 (some (.long r), u') 11 [(0, .ref a0), (1, .ref a1), (3, .int x3), (4, .int x4)] [] u) (u : Mm) (a0 : Nat) (a1 : Nat) (x3 : Int32) (x4 : Int32) (x6 : Int32) (s0 : Int32) (h : bX5_valueOf_105 k11 u a0 a1 x3 x4 x6 s0 = some (r, u')) : Eg MX5_valueOf 1 0 0 (some (.long r), u') 105 [(0, .ref a0), (1, .ref a1), (3, .int x3), (4, .int x4), (6, .int x6)] [.int s0] u := by
  unfold bX5_valueOf_105 at h
  refine E_istore (l' := [(7, .int s0), (0, .ref a0), (1, .ref a1), (3, .int x3), (4, .int x4), (6, .int x6)]) dX5_valueOf_105 (Nat.le_of_ble_eq_true rfl) rfl ?_
  refine E_aload_n dX5_valueOf_107 rfl rfl ?_
  refine E_getA h dX5_valueOf_108 cf5 lk_X5_9 (by decide) (fun _ _ _ => rfl) (fun e11 h => ?_)
  refine E_iload_n dX5_valueOf_111 rfl rfl ?_
  refine E_iload dX5_valueOf_112 rfl ?_
  refine E_if_eq (tgt := 128) h dX5_valueOf_114 (by decide) (fun h => ?_) (fun h => ?_)
  · refine E_iload dX5_valueOf_128 rfl ?_
    refine E_i2l dX5_valueOf_130 ?_
    refine Eg.pick [1, 2, 3, 4] rfl ?_
    exact pX5_valueOf_131 hk11 _ _ _ _ _ _ _ _ h
  · refine E_aload_n dX5_valueOf_117 rfl rfl ?_
    refine E_getA h dX5_valueOf_118 cf5 lk_X5_15 (by decide) (fun _ _ _ => rfl) (fun e13 h => ?_)
    refine E_iload dX5_valueOf_121 rfl ?_
    refine E_iald h dX5_valueOf_123 (fun h => ?_)
    refine E_oI h (fun v14 h => ?_)
    refine E_i2l dX5_valueOf_124 ?_
    refine E_goto (tgt := 131) dX5_valueOf_125 (by decide) ?_
    refine Eg.pick [1, 2, 3, 4] rfl ?_
    exact pX5_valueOf_131 hk11 _ _ _ _ _ _ _ _ h
def bX5_valueOf_104 (k11 : Mm → Nat → Nat → Int32 → Int32 → Option (Int64 × Mm)) (u : Mm) (a0 : Nat) (a1 : Nat) (x3 : Int32) (x4 : Int32) (x6 : Int32) : Option (Int64 × Mm) := bX5_valueOf_105 k11 u a0 a1 x3 x4 x6 0
set_option maxRecDepth 100000 in
set_option maxHeartbeats 4000000 in
theorem pX5_valueOf_104 {r : Int64} {u' : Mm} {k11 : Mm → Nat → Nat → Int32 → Int32 → Option (Int64 × Mm)} (hk11 : ∀ (u : Mm) (a0 : Nat) (a1 : Nat) (x3 : Int32) (x4 : Int32), k11 u a0 a1 x3 x4 = some (r, u') → Eg MX5_valueOf 1 0 0 (some (.long r), u') 11 [(0, .ref a0), (1, .ref a1), (3, .int x3), (4, .int x4)] [] u) (u : Mm) (a0 : Nat) (a1 : Nat) (x3 : Int32) (x4 : Int32) (x6 : Int32) (h : bX5_valueOf_104 k11 u a0 a1 x3 x4 x6 = some (r, u')) : Eg MX5_valueOf 1 0 0 (some (.long r), u') 104 [(0, .ref a0), (1, .ref a1), (3, .int x3), (4, .int x4), (6, .int x6)] [] u := by
  unfold bX5_valueOf_104 at h
  refine E_iconst (v := 0) dX5_valueOf_104 (by decide) ?_
  refine Eg.pick [0, 1, 2, 3, 4] rfl ?_
  exact pX5_valueOf_105 hk11 _ _ _ _ _ _ _ h
def bX5_valueOf_67 (k11 : Mm → Nat → Nat → Int32 → Int32 → Option (Int64 × Mm)) (u : Mm) (a0 : Nat) (a1 : Nat) (x3 : Int32) (x4 : Int32) (x5 : Int32) (x6 : Int32) : Option (Int64 × Mm) := oK u a0 5 2 (oNn (mR u a0 0) (fun e10 => oL u e10 ((if (Int32.ofNat (mK u e10).2 : Int32) ≤ (x3 + 1) then bX5_valueOf_210 k11 u a0 a1 x3 x4 else (if (x5 : Int32) = 287 then oB (fX8_within u x6 0 14) (fun v15 u16 => (if (v15 : Int32) = 0 then bX5_valueOf_104 k11 u16 a0 a1 (x3 + 1) x4 x6 else bX5_valueOf_105 k11 u16 a0 a1 (x3 + 1) x4 x6 1)) else bX5_valueOf_104 k11 u a0 a1 (x3 + 1) x4 x6)))))
set_option maxRecDepth 100000 in
set_option maxHeartbeats 4000000 in
theorem pX5_valueOf_67 {r : Int64} {u' : Mm} {k11 : Mm → Nat → Nat → Int32 → Int32 → Option (Int64 × Mm)} (hk11 : ∀ (u : Mm) (a0 : Nat) (a1 : Nat) (x3 : Int32) (x4 : Int32), k11 u a0 a1 x3 x4 = some (r, u') → Eg MX5_valueOf 1 0 0 (some (.long r), u') 11 [(0, .ref a0), (1, .ref a1), (3, .int x3), (4, .int x4)] [] u) (u : Mm) (a0 : Nat) (a1 : Nat) (x3 : Int32) (x4 : Int32) (x5 : Int32) (x6 : Int32) (h : bX5_valueOf_67 k11 u a0 a1 x3 x4 x5 x6 = some (r, u')) : Eg MX5_valueOf 1 0 0 (some (.long r), u') 67 [(0, .ref a0), (1, .ref a1), (3, .int x3), (4, .int x4), (5, .int x5), (6, .int x6)] [] u := by
  unfold bX5_valueOf_67 at h
  refine E_iload_n dX5_valueOf_67 rfl rfl ?_
  refine E_iconst (v := 1) dX5_valueOf_68 (by decide) ?_
  refine E_iadd dX5_valueOf_69 ?_
  refine E_aload_n dX5_valueOf_70 rfl rfl ?_
  refine E_getA h dX5_valueOf_71 cf5 lk_X5_9 (by decide) (fun _ _ _ => rfl) (fun e10 h => ?_)
  refine E_alen h dX5_valueOf_74 (fun h => ?_)
  refine E_ic_ge (tgt := 210) h dX5_valueOf_75 (by decide) (fun h => ?_) (fun h => ?_)
  · refine Eg.pick [0, 1, 2, 3] rfl ?_
    exact pX5_valueOf_210 hk11 _ _ _ _ _ h
  · refine E_iinc (j := 2) (v := x3 + 1) (l' := [(3, .int (x3 + 1)), (0, .ref a0), (1, .ref a1), (4, .int x4), (5, .int x5), (6, .int x6)]) dX5_valueOf_78 rfl (addI (by decide)) (Nat.le_of_ble_eq_true rfl) rfl ?_
    refine E_iload dX5_valueOf_81 rfl ?_
    refine E_sipush (v := 287) dX5_valueOf_83 (by decide) ?_
    refine E_ic_ne (tgt := 104) h dX5_valueOf_86 (by decide) (fun h => ?_) (fun h => ?_)
    · refine Eg.pick [1, 2, 0, 3, 5] rfl ?_
      exact pX5_valueOf_104 hk11 _ _ _ _ _ _ h
    · refine E_iload dX5_valueOf_89 rfl ?_
      refine E_iconst (v := 0) dX5_valueOf_91 (by decide) ?_
      refine E_bipush (v := 14) dX5_valueOf_92 (by decide) ?_
      refine F_Si h (fun a m e => tX8_within e) dX5_valueOf_94 hm_X8_within hs_X8_within ln_X5_66 rfl rfl (Nat.le_of_ble_eq_true rfl) (Nat.le_of_ble_eq_true rfl) (kc' := 0) (ks' := 0) rfl rfl (fun v15 u16 h => ?_)
      refine E_if_eq (tgt := 104) h dX5_valueOf_97 (by decide) (fun h => ?_) (fun h => ?_)
      · refine Eg.pick [1, 2, 0, 3, 5] rfl ?_
        exact pX5_valueOf_104 hk11 _ _ _ _ _ _ h
      · refine E_iconst (v := 1) dX5_valueOf_100 (by decide) ?_
        refine E_goto (tgt := 105) dX5_valueOf_101 (by decide) ?_
        refine Eg.pick [1, 2, 0, 3, 5] rfl ?_
        exact pX5_valueOf_105 hk11 _ _ _ _ _ _ _ h
def bX5_valueOf_11 (k11 : Mm → Nat → Nat → Int32 → Int32 → Option (Int64 × Mm)) (u : Mm) (a0 : Nat) (a1 : Nat) (x3 : Int32) (x4 : Int32) : Option (Int64 × Mm) := oK u a1 6 7 (oI (mI u a1 2) (fun v1 => (if (v1 : Int32) ≤ x4 then bX5_valueOf_216 u a0 x3 else oK u a1 6 7 (oNn (mR u a1 0) (fun e4 => oA u e4 10 x4 (oI (mI u e4 (Int32.toNatClampNeg x4)) (fun v5 => (if (v5 : Int32) = 288 then bX5_valueOf_216 u a0 x3 else oK u a1 6 7 (oNn (mR u a1 0) (fun e6 => oA u e6 10 x4 (oI (mI u e6 (Int32.toNatClampNeg x4)) (fun v7 => oK u a1 6 7 (oNn (mR u a1 1) (fun e8 => oA u e8 10 x4 (oI (mI u e8 (Int32.toNatClampNeg x4)) (fun v9 => (if (v7 : Int32) = 285 then bX5_valueOf_67 k11 u a0 a1 x3 x4 v7 v9 else (if (v7 : Int32) = 287 then bX5_valueOf_67 k11 u a0 a1 x3 x4 v7 v9 else (if (v7 : Int32) = 271 then (if (x3 : Int32) < 0 then bX5_valueOf_210 k11 u a0 a1 x3 x4 else oK u a0 5 2 (oNn (mR u a0 0) (fun e25 => oA u e25 11 x3 (oJ (mL u e25 (Int32.toNatClampNeg x3)) (fun w26 => (if (lg_cmp w26 4000000000 : Int32) = 0 then bX5_valueOf_210 k11 u a0 a1 x3 x4 else oK u a0 5 2 (oNn (mR u a0 0) (fun e27 => oK u a0 5 2 (oNn (mR u a0 0) (fun e28 => oA u e28 11 x3 (oJ (mL u e28 (Int32.toNatClampNeg x3)) (fun w29 => oA u e27 11 x3 (oU (wL u e27 (vp_updL (mL u e27) (Int32.toNatClampNeg x3) ((1 : Int64) - w29))) (fun u30 => bX5_valueOf_210 k11 u30 a0 a1 x3 x4)))))))))))))) else (if (x3 : Int32) < 1 then bX5_valueOf_210 k11 u a0 a1 x3 x4 else oK u a0 5 2 (oNn (mR u a0 0) (fun e17 => oK u a0 5 2 (oNn (mR u a0 0) (fun e18 => oA u e18 11 (x3 + (-1)) (oJ (mL u e18 (Int32.toNatClampNeg (x3 + (-1)))) (fun w19 => oK u a0 5 2 (oNn (mR u a0 0) (fun e20 => oA u e20 11 ((x3 + (-1)) + 1) (oJ (mL u e20 (Int32.toNatClampNeg ((x3 + (-1)) + 1))) (fun w21 => oB (fX5_joined u v7 w19 w21) (fun w22 u23 => oA u23 e17 11 (x3 + (-1)) (oU (wL u23 e17 (vp_updL (mL u23 e17) (Int32.toNatClampNeg (x3 + (-1))) w22)) (fun u24 => bX5_valueOf_210 k11 u24 a0 a1 (x3 + (-1)) x4)))))))))))))))))))))))))))))))))
set_option maxRecDepth 100000 in
set_option maxHeartbeats 4000000 in
theorem pX5_valueOf_11 {r : Int64} {u' : Mm} {k11 : Mm → Nat → Nat → Int32 → Int32 → Option (Int64 × Mm)} (hk11 : ∀ (u : Mm) (a0 : Nat) (a1 : Nat) (x3 : Int32) (x4 : Int32), k11 u a0 a1 x3 x4 = some (r, u') → Eg MX5_valueOf 1 0 0 (some (.long r), u') 11 [(0, .ref a0), (1, .ref a1), (3, .int x3), (4, .int x4)] [] u) (u : Mm) (a0 : Nat) (a1 : Nat) (x3 : Int32) (x4 : Int32) (h : bX5_valueOf_11 k11 u a0 a1 x3 x4 = some (r, u')) : Eg MX5_valueOf 1 0 0 (some (.long r), u') 11 [(0, .ref a0), (1, .ref a1), (3, .int x3), (4, .int x4)] [] u := by
  unfold bX5_valueOf_11 at h
  refine E_iload dX5_valueOf_11 rfl ?_
  refine E_aload_n dX5_valueOf_13 rfl rfl ?_
  refine E_getI h dX5_valueOf_14 cf6 lk_X5_57 (by decide) (fun _ _ _ => rfl) (fun h => ?_)
  refine E_oI h (fun v1 h => ?_)
  refine E_ic_ge (tgt := 216) h dX5_valueOf_17 (by decide) (fun h => ?_) (fun h => ?_)
  · refine Eg.pick [0, 2] rfl ?_
    exact pX5_valueOf_216 _ _ _ h
  · refine E_aload_n dX5_valueOf_20 rfl rfl ?_
    refine E_getA h dX5_valueOf_21 cf6 lk_X5_60 (by decide) (fun _ _ _ => rfl) (fun e4 h => ?_)
    refine E_iload dX5_valueOf_24 rfl ?_
    refine E_iald h dX5_valueOf_26 (fun h => ?_)
    refine E_oI h (fun v5 h => ?_)
    refine E_sipush (v := 288) dX5_valueOf_27 (by decide) ?_
    refine E_ic_eq (tgt := 216) h dX5_valueOf_30 (by decide) (fun h => ?_) (fun h => ?_)
    · refine Eg.pick [0, 2] rfl ?_
      exact pX5_valueOf_216 _ _ _ h
    · refine E_aload_n dX5_valueOf_33 rfl rfl ?_
      refine E_getA h dX5_valueOf_34 cf6 lk_X5_60 (by decide) (fun _ _ _ => rfl) (fun e6 h => ?_)
      refine E_iload dX5_valueOf_37 rfl ?_
      refine E_iald h dX5_valueOf_39 (fun h => ?_)
      refine E_oI h (fun v7 h => ?_)
      refine E_istore (l' := [(5, .int v7), (0, .ref a0), (1, .ref a1), (3, .int x3), (4, .int x4)]) dX5_valueOf_40 (Nat.le_of_ble_eq_true rfl) rfl ?_
      refine E_aload_n dX5_valueOf_42 rfl rfl ?_
      refine E_getA h dX5_valueOf_43 cf6 lk_X5_63 (by decide) (fun _ _ _ => rfl) (fun e8 h => ?_)
      refine E_iload dX5_valueOf_46 rfl ?_
      refine E_iald h dX5_valueOf_48 (fun h => ?_)
      refine E_oI h (fun v9 h => ?_)
      refine E_istore (l' := [(6, .int v9), (5, .int v7), (0, .ref a0), (1, .ref a1), (3, .int x3), (4, .int x4)]) dX5_valueOf_49 (Nat.le_of_ble_eq_true rfl) rfl ?_
      refine E_iload dX5_valueOf_51 rfl ?_
      refine E_sipush (v := 285) dX5_valueOf_53 (by decide) ?_
      refine E_ic_eq (tgt := 67) h dX5_valueOf_56 (by decide) (fun h => ?_) (fun h => ?_)
      · refine Eg.pick [2, 3, 4, 5, 1, 0] rfl ?_
        exact pX5_valueOf_67 hk11 _ _ _ _ _ _ _ h
      · refine E_iload dX5_valueOf_59 rfl ?_
        refine E_sipush (v := 287) dX5_valueOf_61 (by decide) ?_
        refine E_ic_ne (tgt := 135) h dX5_valueOf_64 (by decide) (fun h => ?_) (fun h => ?_)
        · refine E_iload dX5_valueOf_135 rfl ?_
          refine E_sipush (v := 271) dX5_valueOf_137 (by decide) ?_
          refine E_ic_ne (tgt := 177) h dX5_valueOf_140 (by decide) (fun h => ?_) (fun h => ?_)
          · refine E_iload_n dX5_valueOf_177 rfl rfl ?_
            refine E_iconst (v := 1) dX5_valueOf_178 (by decide) ?_
            refine E_ic_lt (tgt := 210) h dX5_valueOf_179 (by decide) (fun h => ?_) (fun h => ?_)
            · refine Eg.pick [2, 3, 4, 5] rfl ?_
              exact pX5_valueOf_210 hk11 _ _ _ _ _ h
            · refine E_iinc (j := 4) (v := x3 + (-1)) (l' := [(3, .int (x3 + (-1))), (6, .int v9), (5, .int v7), (0, .ref a0), (1, .ref a1), (4, .int x4)]) dX5_valueOf_182 rfl (addI (by decide)) (Nat.le_of_ble_eq_true rfl) rfl ?_
              refine E_aload_n dX5_valueOf_185 rfl rfl ?_
              refine E_getA h dX5_valueOf_186 cf5 lk_X5_9 (by decide) (fun _ _ _ => rfl) (fun e17 h => ?_)
              refine E_iload_n dX5_valueOf_189 rfl rfl ?_
              refine E_iload dX5_valueOf_190 rfl ?_
              refine E_aload_n dX5_valueOf_192 rfl rfl ?_
              refine E_getA h dX5_valueOf_193 cf5 lk_X5_9 (by decide) (fun _ _ _ => rfl) (fun e18 h => ?_)
              refine E_iload_n dX5_valueOf_196 rfl rfl ?_
              refine E_lald h dX5_valueOf_197 (fun h => ?_)
              refine E_oJ h (fun w19 h => ?_)
              refine E_aload_n dX5_valueOf_198 rfl rfl ?_
              refine E_getA h dX5_valueOf_199 cf5 lk_X5_9 (by decide) (fun _ _ _ => rfl) (fun e20 h => ?_)
              refine E_iload_n dX5_valueOf_202 rfl rfl ?_
              refine E_iconst (v := 1) dX5_valueOf_203 (by decide) ?_
              refine E_iadd dX5_valueOf_204 ?_
              refine E_lald h dX5_valueOf_205 (fun h => ?_)
              refine E_oJ h (fun w21 h => ?_)
              refine F_Sl h (fun a m e => tX5_joined e) dX5_valueOf_206 hm_X5_joined hs_X5_joined ln_X5_70 rfl rfl (Nat.le_of_ble_eq_true rfl) (Nat.le_of_ble_eq_true rfl) (kc' := 0) (ks' := 0) rfl rfl (fun w22 u23 h => ?_)
              refine E_last h dX5_valueOf_209 (fun h => ?_)
              refine E_oU h (fun u24 h => ?_)
              refine Eg.pick [3, 4, 0, 5] rfl ?_
              exact pX5_valueOf_210 hk11 _ _ _ _ _ h
          · refine E_iload_n dX5_valueOf_143 rfl rfl ?_
            refine E_if_lt (tgt := 210) h dX5_valueOf_144 (by decide) (fun h => ?_) (fun h => ?_)
            · refine Eg.pick [2, 3, 4, 5] rfl ?_
              exact pX5_valueOf_210 hk11 _ _ _ _ _ h
            · refine E_aload_n dX5_valueOf_147 rfl rfl ?_
              refine E_getA h dX5_valueOf_148 cf5 lk_X5_9 (by decide) (fun _ _ _ => rfl) (fun e25 h => ?_)
              refine E_iload_n dX5_valueOf_151 rfl rfl ?_
              refine E_lald h dX5_valueOf_152 (fun h => ?_)
              refine E_oJ h (fun w26 h => ?_)
              refine E_ldc2 dX5_valueOf_153 rfl cn_X5_55 ?_
              refine E_lcmp dX5_valueOf_156 ?_
              refine E_if_eq (tgt := 210) h dX5_valueOf_157 (by decide) (fun h => ?_) (fun h => ?_)
              · refine Eg.pick [2, 3, 4, 5] rfl ?_
                exact pX5_valueOf_210 hk11 _ _ _ _ _ h
              · refine E_aload_n dX5_valueOf_160 rfl rfl ?_
                refine E_getA h dX5_valueOf_161 cf5 lk_X5_9 (by decide) (fun _ _ _ => rfl) (fun e27 h => ?_)
                refine E_iload_n dX5_valueOf_164 rfl rfl ?_
                refine E_lconst (v := 1) dX5_valueOf_165 (by decide) ?_
                refine E_aload_n dX5_valueOf_166 rfl rfl ?_
                refine E_getA h dX5_valueOf_167 cf5 lk_X5_9 (by decide) (fun _ _ _ => rfl) (fun e28 h => ?_)
                refine E_iload_n dX5_valueOf_170 rfl rfl ?_
                refine E_lald h dX5_valueOf_171 (fun h => ?_)
                refine E_oJ h (fun w29 h => ?_)
                refine E_lsub dX5_valueOf_172 ?_
                refine E_last h dX5_valueOf_173 (fun h => ?_)
                refine E_oU h (fun u30 h => ?_)
                refine E_goto (tgt := 210) dX5_valueOf_174 (by decide) ?_
                refine Eg.pick [2, 3, 4, 5] rfl ?_
                exact pX5_valueOf_210 hk11 _ _ _ _ _ h
        · refine Eg.pick [2, 3, 4, 5, 1, 0] rfl ?_
          exact pX5_valueOf_67 hk11 _ _ _ _ _ _ _ h
def rX5_valueOf_11 : Nat → Mm → Nat → Nat → Int32 → Int32 → Option (Int64 × Mm)
  | 0, _, _, _, _, _ => none
  | n + 1, u, a0, a1, x3, x4 => bX5_valueOf_11 (rX5_valueOf_11 n) u a0 a1 x3 x4
theorem prX5_valueOf_11 {r : Int64} {u' : Mm} : ∀ (n : Nat) (u : Mm) (a0 : Nat) (a1 : Nat) (x3 : Int32) (x4 : Int32), rX5_valueOf_11 n u a0 a1 x3 x4 = some (r, u') → Eg MX5_valueOf 1 0 0 (some (.long r), u') 11 [(0, .ref a0), (1, .ref a1), (3, .int x3), (4, .int x4)] [] u
  | 0, _, _, _, _, _, h => by cases h
  | n + 1, u, a0, a1, x3, x4, h => pX5_valueOf_11 (prX5_valueOf_11 n) u a0 a1 x3 x4 h
def fX5_valueOf (u : Mm) (a0 : Nat) (a1 : Nat) (x2 : Int32) : Option (Int64 × Mm) := (if 0 ≤ (x2 : Int32) then rX5_valueOf_11 hwF u a0 a1 ((-1)) x2 else some (0, u))
set_option maxRecDepth 100000 in
set_option maxHeartbeats 4000000 in
theorem tX5_valueOf {u : Mm} {a0 : Nat} {a1 : Nat} {x2 : Int32} {r : Int64} {u' : Mm} (h : fX5_valueOf u a0 a1 x2 = some (r, u')) : Ev 1 MX5_valueOf 0 0 [.ref a0, .ref a1, .int x2] u (some (.long r), u') := by
  refine Ev.of (by decide +kernel) (Nat.le_of_ble_eq_true rfl) (show Eg MX5_valueOf 1 0 0 (some (.long r), u') 0 [(0, .ref a0), (1, .ref a1), (2, .int x2)] [] u from ?_)
  unfold fX5_valueOf at h
  refine E_iload_n dX5_valueOf_0 rfl rfl ?_
  refine E_if_ge (tgt := 6) h dX5_valueOf_1 (by decide) (fun h => ?_) (fun h => ?_)
  · refine E_iconst (v := (-1)) dX5_valueOf_6 (by decide) ?_
    refine E_istore_n (l' := [(3, .int ((-1))), (0, .ref a0), (1, .ref a1), (2, .int x2)]) dX5_valueOf_7 rfl (Nat.le_of_ble_eq_true rfl) rfl ?_
    refine E_iload_n dX5_valueOf_8 rfl rfl ?_
    refine E_istore (l' := [(4, .int x2), (3, .int ((-1))), (0, .ref a0), (1, .ref a1), (2, .int x2)]) dX5_valueOf_9 (Nat.le_of_ble_eq_true rfl) rfl ?_
    refine Eg.pick [2, 3, 1, 0] rfl ?_
    exact prX5_valueOf_11 _ _ _ _ _ _ h
  · refine E_lconst (v := 0) dX5_valueOf_4 (by decide) ?_
    exact E_lret h dX5_valueOf_5 rfl
def bX5_toldBy_101 (k14 : Mm → Nat → Nat → Int32 → Int32 → Int32 → Option (Int32 × Mm)) (u : Mm) (a0 : Nat) (a1 : Nat) (x2 : Int32) (x3 : Int32) (x4 : Int32) : Option (Int32 × Mm) := k14 u a0 a1 x2 x3 (x4 + (-1))
set_option maxRecDepth 100000 in
set_option maxHeartbeats 4000000 in
theorem pX5_toldBy_101 {r : Int32} {u' : Mm} {k14 : Mm → Nat → Nat → Int32 → Int32 → Int32 → Option (Int32 × Mm)} (hk14 : ∀ (u : Mm) (a0 : Nat) (a1 : Nat) (x2 : Int32) (x3 : Int32) (x4 : Int32), k14 u a0 a1 x2 x3 x4 = some (r, u') → Eg MX5_toldBy 2 0 0 (some (.int r), u') 14 [(0, .ref a0), (1, .ref a1), (2, .int x2), (3, .int x3), (4, .int x4)] [] u) (u : Mm) (a0 : Nat) (a1 : Nat) (x2 : Int32) (x3 : Int32) (x4 : Int32) (h : bX5_toldBy_101 k14 u a0 a1 x2 x3 x4 = some (r, u')) : Eg MX5_toldBy 2 0 0 (some (.int r), u') 101 [(0, .ref a0), (1, .ref a1), (2, .int x2), (3, .int x3), (4, .int x4)] [] u := by
  unfold bX5_toldBy_101 at h
  refine E_iinc (j := 4) (v := x4 + (-1)) (l' := [(4, .int (x4 + (-1))), (0, .ref a0), (1, .ref a1), (2, .int x2), (3, .int x3)]) dX5_toldBy_101 rfl (addI (by decide)) (Nat.le_of_ble_eq_true rfl) rfl ?_
  refine E_goto (tgt := 14) dX5_toldBy_104 (by decide) ?_
  refine Eg.pick [1, 2, 3, 4, 0] rfl ?_
  exact hk14 _ _ _ _ _ _ h
def bX5_toldBy_86 (k14 : Mm → Nat → Nat → Int32 → Int32 → Int32 → Option (Int32 × Mm)) (u : Mm) (a0 : Nat) (a1 : Nat) (x2 : Int32) (x3 : Int32) (x4 : Int32) (s0 : Int64) : Option (Int32 × Mm) := (if (lg_cmp s0 4000000000 : Int32) = 0 then bX5_toldBy_101 k14 u a0 a1 x2 x3 x4 else some (Int64.toInt32 s0, u))
set_option maxRecDepth 100000 in
set_option maxHeartbeats 4000000 in
theorem pX5_toldBy_86 {r : Int32} {u' : Mm} {k14 : Mm → Nat → Nat → Int32 → Int32 → Int32 → Option (Int32 × Mm)} (hk14 : ∀ (u : Mm) (a0 : Nat) (a1 : Nat) (x2 : Int32) (x3 : Int32) (x4 : Int32), k14 u a0 a1 x2 x3 x4 = some (r, u') → Eg MX5_toldBy 2 0 0 (some (.int r), u') 14 [(0, .ref a0), (1, .ref a1), (2, .int x2), (3, .int x3), (4, .int x4)] [] u) (u : Mm) (a0 : Nat) (a1 : Nat) (x2 : Int32) (x3 : Int32) (x4 : Int32) (s0 : Int64) (h : bX5_toldBy_86 k14 u a0 a1 x2 x3 x4 s0 = some (r, u')) : Eg MX5_toldBy 2 0 0 (some (.int r), u') 86 [(0, .ref a0), (1, .ref a1), (2, .int x2), (3, .int x3), (4, .int x4)] [.long s0] u := by
  unfold bX5_toldBy_86 at h
  refine E_lstore (l' := [(6, .long s0), (0, .ref a0), (1, .ref a1), (2, .int x2), (3, .int x3), (4, .int x4)]) dX5_toldBy_86 (Nat.le_of_ble_eq_true rfl) rfl ?_
  refine E_lload dX5_toldBy_88 rfl ?_
  refine E_ldc2 dX5_toldBy_90 rfl cn_X5_55 ?_
  refine E_lcmp dX5_toldBy_93 ?_
  refine E_if_eq (tgt := 101) h dX5_toldBy_94 (by decide) (fun h => ?_) (fun h => ?_)
  · refine Eg.pick [1, 2, 3, 4, 5] rfl ?_
    exact pX5_toldBy_101 hk14 _ _ _ _ _ _ h
  · refine E_lload dX5_toldBy_97 rfl ?_
    refine E_l2i dX5_toldBy_99 ?_
    exact E_iret h dX5_toldBy_100 rfl
def bX5_toldBy_61 (k14 : Mm → Nat → Nat → Int32 → Int32 → Int32 → Option (Int32 × Mm)) (u : Mm) (a0 : Nat) (a1 : Nat) (x2 : Int32) (x3 : Int32) (x4 : Int32) : Option (Int32 × Mm) := (if (x2 : Int32) = 259 then bX5_toldBy_86 k14 u a0 a1 x2 x3 x4 1 else oK u a1 6 7 (oNn (mR u a1 5) (fun e8 => oA u e8 10 (x4 * 4) (oI (mI u e8 (Int32.toNatClampNeg (x4 * 4))) (fun v9 => oR u a0 5 (oB (fX5_valueOf u a0 a1 v9) (fun w10 u11 => bX5_toldBy_86 k14 u11 a0 a1 x2 x3 x4 w10)))))))
set_option maxRecDepth 100000 in
set_option maxHeartbeats 4000000 in
theorem pX5_toldBy_61 {r : Int32} {u' : Mm} {k14 : Mm → Nat → Nat → Int32 → Int32 → Int32 → Option (Int32 × Mm)} (hk14 : ∀ (u : Mm) (a0 : Nat) (a1 : Nat) (x2 : Int32) (x3 : Int32) (x4 : Int32), k14 u a0 a1 x2 x3 x4 = some (r, u') → Eg MX5_toldBy 2 0 0 (some (.int r), u') 14 [(0, .ref a0), (1, .ref a1), (2, .int x2), (3, .int x3), (4, .int x4)] [] u) (u : Mm) (a0 : Nat) (a1 : Nat) (x2 : Int32) (x3 : Int32) (x4 : Int32) (h : bX5_toldBy_61 k14 u a0 a1 x2 x3 x4 = some (r, u')) : Eg MX5_toldBy 2 0 0 (some (.int r), u') 61 [(0, .ref a0), (1, .ref a1), (2, .int x2), (3, .int x3), (4, .int x4)] [] u := by
  unfold bX5_toldBy_61 at h
  refine E_iload_n dX5_toldBy_61 rfl rfl ?_
  refine E_sipush (v := 259) dX5_toldBy_62 (by decide) ?_
  refine E_ic_ne (tgt := 72) h dX5_toldBy_65 (by decide) (fun h => ?_) (fun h => ?_)
  · refine E_aload_n dX5_toldBy_72 rfl rfl ?_
    refine E_aload_n dX5_toldBy_73 rfl rfl ?_
    refine E_aload_n dX5_toldBy_74 rfl rfl ?_
    refine E_getA h dX5_toldBy_75 cf6 lk_X5_45 (by decide) (fun _ _ _ => rfl) (fun e8 h => ?_)
    refine E_iload dX5_toldBy_78 rfl ?_
    refine E_iconst (v := 4) dX5_toldBy_80 (by decide) ?_
    refine E_imul dX5_toldBy_81 ?_
    refine E_iald h dX5_toldBy_82 (fun h => ?_)
    refine E_oI h (fun v9 h => ?_)
    refine F_Vl h (fun a m e => tX5_valueOf e) dX5_toldBy_83 hm_X5_valueOf hv_X5_valueOf ln_X5_51 rfl rfl (Nat.le_of_ble_eq_true rfl) (Nat.le_of_ble_eq_true rfl) (kc' := 0) (ks' := 0) rfl rfl (fun w10 u11 h => ?_)
    refine Eg.pick [0, 1, 2, 3, 4] rfl ?_
    exact pX5_toldBy_86 hk14 _ _ _ _ _ _ _ h
  · refine E_lconst (v := 1) dX5_toldBy_68 (by decide) ?_
    refine E_goto (tgt := 86) dX5_toldBy_69 (by decide) ?_
    refine Eg.pick [0, 1, 2, 3, 4] rfl ?_
    exact pX5_toldBy_86 hk14 _ _ _ _ _ _ _ h
def bX5_toldBy_14 (k14 : Mm → Nat → Nat → Int32 → Int32 → Int32 → Option (Int32 × Mm)) (u : Mm) (a0 : Nat) (a1 : Nat) (x2 : Int32) (x3 : Int32) (x4 : Int32) : Option (Int32 × Mm) := (if (x4 : Int32) < 0 then some (x3, u) else oK u a1 6 7 (oNn (mR u a1 5) (fun e4 => oA u e4 10 ((x4 * 4) + 3) (oI (mI u e4 (Int32.toNatClampNeg ((x4 * 4) + 3))) (fun v5 => oK u a1 6 7 (oNn (mR u a1 3) (fun e6 => oA u e6 10 x4 (oI (mI u e6 (Int32.toNatClampNeg x4)) (fun v7 => (if (v7 : Int32) = x2 then (if (v5 : Int32) = ((-1)) then bX5_toldBy_61 k14 u a0 a1 x2 x3 x4 else oR u a0 5 (oB (fX5_valueOf u a0 a1 v5) (fun w12 u13 => (if (lg_cmp w12 1 : Int32) = 0 then bX5_toldBy_61 k14 u13 a0 a1 x2 x3 x4 else bX5_toldBy_101 k14 u13 a0 a1 x2 x3 x4)))) else bX5_toldBy_101 k14 u a0 a1 x2 x3 x4))))))))))
set_option maxRecDepth 100000 in
set_option maxHeartbeats 4000000 in
theorem pX5_toldBy_14 {r : Int32} {u' : Mm} {k14 : Mm → Nat → Nat → Int32 → Int32 → Int32 → Option (Int32 × Mm)} (hk14 : ∀ (u : Mm) (a0 : Nat) (a1 : Nat) (x2 : Int32) (x3 : Int32) (x4 : Int32), k14 u a0 a1 x2 x3 x4 = some (r, u') → Eg MX5_toldBy 2 0 0 (some (.int r), u') 14 [(0, .ref a0), (1, .ref a1), (2, .int x2), (3, .int x3), (4, .int x4)] [] u) (u : Mm) (a0 : Nat) (a1 : Nat) (x2 : Int32) (x3 : Int32) (x4 : Int32) (h : bX5_toldBy_14 k14 u a0 a1 x2 x3 x4 = some (r, u')) : Eg MX5_toldBy 2 0 0 (some (.int r), u') 14 [(0, .ref a0), (1, .ref a1), (2, .int x2), (3, .int x3), (4, .int x4)] [] u := by
  unfold bX5_toldBy_14 at h
  refine E_iload dX5_toldBy_14 rfl ?_
  refine E_if_lt (tgt := 107) h dX5_toldBy_16 (by decide) (fun h => ?_) (fun h => ?_)
  · refine E_iload_n dX5_toldBy_107 rfl rfl ?_
    exact E_iret h dX5_toldBy_108 rfl
  · refine E_aload_n dX5_toldBy_19 rfl rfl ?_
    refine E_getA h dX5_toldBy_20 cf6 lk_X5_45 (by decide) (fun _ _ _ => rfl) (fun e4 h => ?_)
    refine E_iload dX5_toldBy_23 rfl ?_
    refine E_iconst (v := 4) dX5_toldBy_25 (by decide) ?_
    refine E_imul dX5_toldBy_26 ?_
    refine E_iconst (v := 3) dX5_toldBy_27 (by decide) ?_
    refine E_iadd dX5_toldBy_28 ?_
    refine E_iald h dX5_toldBy_29 (fun h => ?_)
    refine E_oI h (fun v5 h => ?_)
    refine E_istore (l' := [(5, .int v5), (0, .ref a0), (1, .ref a1), (2, .int x2), (3, .int x3), (4, .int x4)]) dX5_toldBy_30 (Nat.le_of_ble_eq_true rfl) rfl ?_
    refine E_aload_n dX5_toldBy_32 rfl rfl ?_
    refine E_getA h dX5_toldBy_33 cf6 lk_X5_48 (by decide) (fun _ _ _ => rfl) (fun e6 h => ?_)
    refine E_iload dX5_toldBy_36 rfl ?_
    refine E_iald h dX5_toldBy_38 (fun h => ?_)
    refine E_oI h (fun v7 h => ?_)
    refine E_iload_n dX5_toldBy_39 rfl rfl ?_
    refine E_ic_ne (tgt := 101) h dX5_toldBy_40 (by decide) (fun h => ?_) (fun h => ?_)
    · refine Eg.pick [1, 2, 3, 4, 5] rfl ?_
      exact pX5_toldBy_101 hk14 _ _ _ _ _ _ h
    · refine E_iload dX5_toldBy_43 rfl ?_
      refine E_iconst (v := (-1)) dX5_toldBy_45 (by decide) ?_
      refine E_ic_eq (tgt := 61) h dX5_toldBy_46 (by decide) (fun h => ?_) (fun h => ?_)
      · refine Eg.pick [1, 2, 3, 4, 5] rfl ?_
        exact pX5_toldBy_61 hk14 _ _ _ _ _ _ h
      · refine E_aload_n dX5_toldBy_49 rfl rfl ?_
        refine E_aload_n dX5_toldBy_50 rfl rfl ?_
        refine E_iload dX5_toldBy_51 rfl ?_
        refine F_Vl h (fun a m e => tX5_valueOf e) dX5_toldBy_53 hm_X5_valueOf hv_X5_valueOf ln_X5_51 rfl rfl (Nat.le_of_ble_eq_true rfl) (Nat.le_of_ble_eq_true rfl) (kc' := 0) (ks' := 0) rfl rfl (fun w12 u13 h => ?_)
        refine E_lconst (v := 1) dX5_toldBy_56 (by decide) ?_
        refine E_lcmp dX5_toldBy_57 ?_
        refine E_if_ne (tgt := 101) h dX5_toldBy_58 (by decide) (fun h => ?_) (fun h => ?_)
        · refine Eg.pick [1, 2, 3, 4, 5] rfl ?_
          exact pX5_toldBy_101 hk14 _ _ _ _ _ _ h
        · refine Eg.pick [1, 2, 3, 4, 5] rfl ?_
          exact pX5_toldBy_61 hk14 _ _ _ _ _ _ h
def rX5_toldBy_14 : Nat → Mm → Nat → Nat → Int32 → Int32 → Int32 → Option (Int32 × Mm)
  | 0, _, _, _, _, _, _ => none
  | n + 1, u, a0, a1, x2, x3, x4 => bX5_toldBy_14 (rX5_toldBy_14 n) u a0 a1 x2 x3 x4
theorem prX5_toldBy_14 {r : Int32} {u' : Mm} : ∀ (n : Nat) (u : Mm) (a0 : Nat) (a1 : Nat) (x2 : Int32) (x3 : Int32) (x4 : Int32), rX5_toldBy_14 n u a0 a1 x2 x3 x4 = some (r, u') → Eg MX5_toldBy 2 0 0 (some (.int r), u') 14 [(0, .ref a0), (1, .ref a1), (2, .int x2), (3, .int x3), (4, .int x4)] [] u
  | 0, _, _, _, _, _, _, h => by cases h
  | n + 1, u, a0, a1, x2, x3, x4, h => pX5_toldBy_14 (prX5_toldBy_14 n) u a0 a1 x2 x3 x4 h
def fX5_toldBy (u : Mm) (a0 : Nat) (q1 : Option Nat) (x2 : Int32) (x3 : Int32) : Option (Int32 × Mm) := (match q1 with | none => some (x3, u) | some e1 => oK u e1 6 7 (oI (mI u e1 6) (fun v2 => oI (v2 - 1) (fun v3 => rX5_toldBy_14 hwF u a0 e1 x2 x3 v3))))
set_option maxRecDepth 100000 in
set_option maxHeartbeats 4000000 in
theorem tX5_toldBy {u : Mm} {a0 : Nat} {q1 : Option Nat} {x2 : Int32} {x3 : Int32} {r : Int32} {u' : Mm} (h : fX5_toldBy u a0 q1 x2 x3 = some (r, u')) : Ev 2 MX5_toldBy 0 0 [.ref a0, va_rf q1, .int x2, .int x3] u (some (.int r), u') := by
  have hg : Eg MX5_toldBy 2 0 0 (some (.int r), u') 0 [(0, .ref a0), (1, va_rf q1), (2, .int x2), (3, .int x3)] [] u := by
    unfold fX5_toldBy at h
    refine E_aload_nQ dX5_toldBy_0 rfl rfl ?_
    refine E_ifnonnull (tgt := 6) h dX5_toldBy_1 (by decide) (fun e1 e h => ?_) (fun e h => ?_)
    · subst e
      refine E_aload_n dX5_toldBy_6 rfl rfl ?_
      refine E_getI h dX5_toldBy_7 cf6 lk_X5_39 (by decide) (fun _ _ _ => rfl) (fun h => ?_)
      refine E_oI h (fun v2 h => ?_)
      refine E_iconst (v := 1) dX5_toldBy_10 (by decide) ?_
      refine E_isub dX5_toldBy_11 ?_
      refine E_oI h (fun v3 h => ?_)
      refine E_istore (l' := [(4, .int v3), (0, .ref a0), (1, .ref e1), (2, .int x2), (3, .int x3)]) dX5_toldBy_12 (Nat.le_of_ble_eq_true rfl) rfl ?_
      refine Eg.pick [1, 2, 3, 4, 0] rfl ?_
      exact prX5_toldBy_14 _ _ _ _ _ _ _ h
    · subst e
      refine E_iload_n dX5_toldBy_4 rfl rfl ?_
      exact E_iret h dX5_toldBy_5 rfl
  refine Ev.of (by decide +kernel) ?_ ?_
  · cases q1 <;> exact Nat.le_of_ble_eq_true rfl
  · cases q1 <;> exact hg
