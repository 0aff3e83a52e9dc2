/-! ===== methods as functions, with their contracts (printed by program) ===== -/
def bX4_readClause_38 (u : Mm) (a0 : Nat) (s0 : Int32) : Option (Int32 × Mm) := (if (s0 : Int32) = 0 then oZ s0 (some (s0, u)) else oR u a0 4 (oB (fX4_skip u a0 268) (fun v9 u10 => (if (v9 : Int32) = 0 then oZ s0 (some (s0, u10)) else oK u10 a0 4 8 (oNn (mR u10 a0 7) (fun e11 => oR u10 e11 6 (oB (fX6_beginPlace u10 e11 3) (fun _ u12 => oR u12 a0 4 (oB (fX4_readTest u12 a0 0 0) (fun v13 u14 => oZ v13 (some (v13, u14))))))))))))
set_option maxRecDepth 100000 in
set_option maxHeartbeats 4000000 in
theorem pX4_readClause_38 {r : Int32} {u' : Mm} (u : Mm) (a0 : Nat) (s0 : Int32) (h : bX4_readClause_38 u a0 s0 = some (r, u')) : Eg MX4_readClause 67 0 0 (some (.int r), u') 38 [(0, .ref a0)] [.int s0] u := by
  unfold bX4_readClause_38 at h
  refine E_istore_n (l' := [(2, .int s0), (0, .ref a0)]) dX4_readClause_38 rfl (Nat.le_of_ble_eq_true rfl) rfl ?_
  refine E_iload_n dX4_readClause_39 rfl rfl ?_
  refine E_if_eq (tgt := 68) h dX4_readClause_40 (by decide) (fun h => ?_) (fun h => ?_)
  · refine E_iload_n dX4_readClause_68 rfl rfl ?_
    exact E_zret h dX4_readClause_69 rfl
  · refine E_aload_n dX4_readClause_43 rfl rfl ?_
    refine E_sipush (v := 268) dX4_readClause_44 (by decide) ?_
    refine F_Vi h (fun a m e => tX4_skip e) dX4_readClause_47 hm_X4_skip hv_X4_skip ln_X4_53 rfl rfl (Nat.le_of_ble_eq_true rfl) (Nat.le_of_ble_eq_true rfl) (kc' := 0) (ks' := 0) rfl rfl (fun v9 u10 h => ?_)
    refine E_if_eq (tgt := 68) h dX4_readClause_50 (by decide) (fun h => ?_) (fun h => ?_)
    · refine E_iload_n dX4_readClause_68 rfl rfl ?_
      exact E_zret h dX4_readClause_69 rfl
    · refine E_aload_n dX4_readClause_53 rfl rfl ?_
      refine E_getA h dX4_readClause_54 cf4 lk_X4_24 (by decide) (fun _ _ _ => rfl) (fun e11 h => ?_)
      refine E_iconst (v := 3) dX4_readClause_57 (by decide) ?_
      refine F_Vv h (fun m e => tX6_beginPlace e) dX4_readClause_58 hm_X6_beginPlace hv_X6_beginPlace ln_X4_100 rfl rfl (Nat.le_of_ble_eq_true rfl) (Nat.le_of_ble_eq_true rfl) (kc' := 0) (ks' := 0) rfl rfl (fun u12 h => ?_)
      refine E_aload_n dX4_readClause_61 rfl rfl ?_
      refine E_iconst (v := 0) dX4_readClause_62 (by decide) ?_
      refine E_iconst (v := 0) dX4_readClause_63 (by decide) ?_
      refine F_Vi h (fun a m e => tX4_readTest e) dX4_readClause_64 hm_X4_readTest hv_X4_readTest ln_X4_103 rfl rfl (Nat.le_of_ble_eq_true rfl) (Nat.le_of_ble_eq_true rfl) (kc' := 0) (ks' := 0) rfl rfl (fun v13 u14 h => ?_)
      refine E_istore_n (l' := [(2, .int v13), (0, .ref a0)]) dX4_readClause_67 rfl (Nat.le_of_ble_eq_true rfl) rfl ?_
      refine E_iload_n dX4_readClause_68 rfl rfl ?_
      exact E_zret h dX4_readClause_69 rfl
def fX4_readClause (u : Mm) (a0 : Nat) : Option (Int32 × Mm) := oK u a0 4 8 (oNn (mR u a0 0) (fun e1 => oK u a0 4 8 (oI (mI u a0 4) (fun v2 => oA u e1 10 v2 (oI (mI u e1 (Int32.toNatClampNeg v2)) (fun v3 => oK u a0 4 8 (oNn (mR u a0 7) (fun e4 => oR u e4 6 (oB (fX6_beginClause u e4 v3) (fun _ u5 => oK u5 a0 4 8 (oI (mI u5 a0 6) (fun v6 => (if (v6 : Int32) = 0 then oR u5 a0 4 (oB (fX4_readOrder u5 a0 v3) (fun v7 u8 => bX4_readClause_38 u8 a0 v7)) else oR u5 a0 4 (oB (fX4_readLaw u5 a0 v3) (fun v15 u16 => bX4_readClause_38 u16 a0 v15)))))))))))))))
set_option maxRecDepth 100000 in
set_option maxHeartbeats 4000000 in
theorem tX4_readClause {u : Mm} {a0 : Nat} {r : Int32} {u' : Mm} (h : fX4_readClause u a0 = some (r, u')) : Ev 67 MX4_readClause 0 0 [.ref a0] u (some (.int r), u') := by
  refine Ev.of (by decide +kernel) (Nat.le_of_ble_eq_true rfl) (show Eg MX4_readClause 67 0 0 (some (.int r), u') 0 [(0, .ref a0)] [] u from ?_)
  unfold fX4_readClause at h
  refine E_aload_n dX4_readClause_0 rfl rfl ?_
  refine E_getA h dX4_readClause_1 cf4 lk_X4_9 (by decide) (fun _ _ _ => rfl) (fun e1 h => ?_)
  refine E_aload_n dX4_readClause_4 rfl rfl ?_
  refine E_getI h dX4_readClause_5 cf4 lk_X4_36 (by decide) (fun _ _ _ => rfl) (fun h => ?_)
  refine E_oI h (fun v2 h => ?_)
  refine E_iald h dX4_readClause_8 (fun h => ?_)
  refine E_oI h (fun v3 h => ?_)
  refine E_istore_n (l' := [(1, .int v3), (0, .ref a0)]) dX4_readClause_9 rfl (Nat.le_of_ble_eq_true rfl) rfl ?_
  refine E_aload_n dX4_readClause_10 rfl rfl ?_
  refine E_getA h dX4_readClause_11 cf4 lk_X4_24 (by decide) (fun _ _ _ => rfl) (fun e4 h => ?_)
  refine E_iload_n dX4_readClause_14 rfl rfl ?_
  refine F_Vv h (fun m e => tX6_beginClause e) dX4_readClause_15 hm_X6_beginClause hv_X6_beginClause ln_X4_90 rfl rfl (Nat.le_of_ble_eq_true rfl) (Nat.le_of_ble_eq_true rfl) (kc' := 0) (ks' := 0) rfl rfl (fun u5 h => ?_)
  refine E_aload_n dX4_readClause_18 rfl rfl ?_
  refine E_getI h dX4_readClause_19 cf4 lk_X4_28 (by decide) (fun _ _ _ => rfl) (fun h => ?_)
  refine E_oI h (fun v6 h => ?_)
  refine E_if_eq (tgt := 33) h dX4_readClause_22 (by decide) (fun h => ?_) (fun h => ?_)
  · refine E_aload_n dX4_readClause_33 rfl rfl ?_
    refine E_iload_n dX4_readClause_34 rfl rfl ?_
    refine F_Vi h (fun a m e => tX4_readOrder e) dX4_readClause_35 hm_X4_readOrder hv_X4_readOrder ln_X4_97 rfl rfl (Nat.le_of_ble_eq_true rfl) (Nat.le_of_ble_eq_true rfl) (kc' := 0) (ks' := 0) rfl rfl (fun v7 u8 h => ?_)
    refine Eg.pick [1] rfl ?_
    exact pX4_readClause_38 _ _ _ h
  · refine E_aload_n dX4_readClause_25 rfl rfl ?_
    refine E_iload_n dX4_readClause_26 rfl rfl ?_
    refine F_Vi h (fun a m e => tX4_readLaw e) dX4_readClause_27 hm_X4_readLaw hv_X4_readLaw ln_X4_94 rfl rfl (Nat.le_of_ble_eq_true rfl) (Nat.le_of_ble_eq_true rfl) (kc' := 0) (ks' := 0) rfl rfl (fun v15 u16 h => ?_)
    refine E_goto (tgt := 38) dX4_readClause_30 (by decide) ?_
    refine Eg.pick [1] rfl ?_
    exact pX4_readClause_38 _ _ _ h
def fX5_init (u : Mm) (a0 : Nat) : Option (Unit × Mm) := oN 51 51 (oP (mN u) (fun e1 => oU (wN u 11 (Int32.toNatClampNeg 51)) (fun u2 => oK u2 a0 5 2 (oU (wR u2 a0 (va_up (mR u2 a0) 0 (some e1))) (fun u3 => oN 15 15 (oP (mN u3) (fun e4 => oU (wN u3 10 (Int32.toNatClampNeg 15)) (fun u5 => oK u5 a0 5 2 (oU (wR u5 a0 (va_up (mR u5 a0) 1 (some e4))) (fun u6 => some ((), u6)))))))))))
set_option maxRecDepth 100000 in
set_option maxHeartbeats 4000000 in
theorem tX5_init {u : Mm} {a0 : Nat} {r : Unit} {u' : Mm} (h : fX5_init u a0 = some (r, u')) : Ev 1 MX5_init 2 66 [.ref a0] u (none, u') := by
  refine Ev.of (by decide +kernel) (Nat.le_of_ble_eq_true rfl) (show Eg MX5_init 1 2 66 (none, u') 0 [(0, .ref a0)] [] u from ?_)
  unfold fX5_init at h
  refine E_aload_n dX5_init_0 rfl rfl ?_
  refine E_objInit dX5_init_1 ln_X5_3 oi_2 oi_3 (Nat.le_of_ble_eq_true rfl) (Nat.le_of_ble_eq_true rfl) ?_
  refine E_aload_n dX5_init_4 rfl rfl ?_
  refine E_bipush (v := 51) dX5_init_5 (by decide) ?_
  refine E_newL h dX5_init_7 aw_long (by decide) (kc' := 1) (ks' := 15) rfl rfl (fun h => ?_)
  refine E_oP h (fun e1 h => ?_)
  refine E_oU h (fun u2 h => ?_)
  refine E_putR h dX5_init_9 cf5 lk_X5_9 (by decide) (Or.inr ⟨rfl, rfl, rfl, lkm_X5_9⟩) (Or.inr ⟨_, rfl⟩) (fun h => ?_)
  refine E_oU h (fun u3 h => ?_)
  refine E_aload_n dX5_init_12 rfl rfl ?_
  refine E_bipush (v := 15) dX5_init_13 (by decide) ?_
  refine E_newI h dX5_init_15 aw_int (by decide) (kc' := 0) (ks' := 0) rfl rfl (fun h => ?_)
  refine E_oP h (fun e4 h => ?_)
  refine E_oU h (fun u5 h => ?_)
  refine E_putR h dX5_init_17 cf5 lk_X5_15 (by decide) (Or.inr ⟨rfl, rfl, rfl, lkm_X5_15⟩) (Or.inr ⟨_, rfl⟩) (fun h => ?_)
  refine E_oU h (fun u6 h => ?_)
  exact E_vret h dX5_init_20 rfl
def bX5_setOrderWords_58 (k58 : Mm → Nat → Nat → Int32 → Option (Unit × Mm)) (u : Mm) (a0 : Nat) (a1 : Nat) (x4 : Int32) : Option (Unit × Mm) := (if (2 : Int32) ≤ x4 then some ((), u) else oK u a0 5 2 (oNn (mR u a0 1) (fun e9 => oR u a1 1 (oB (fX1_supplyOf u a1 x4) (fun v10 u11 => oA u11 e9 10 ((11 : Int32) + x4) (oU (wI u11 e9 (upd (mI u11 e9) (Int32.toNatClampNeg ((11 : Int32) + x4)) v10)) (fun u12 => oK u12 a0 5 2 (oNn (mR u12 a0 1) (fun e13 => oR u12 a1 1 (oB (fX1_temperOf u12 a1 x4) (fun v14 u15 => oA u15 e13 10 ((13 : Int32) + x4) (oU (wI u15 e13 (upd (mI u15 e13) (Int32.toNatClampNeg ((13 : Int32) + x4)) v14)) (fun u16 => k58 u16 a0 a1 (x4 + 1))))))))))))))
set_option maxRecDepth 100000 in
set_option maxHeartbeats 4000000 in
theorem pX5_setOrderWords_58 {r : Unit} {u' : Mm} {k58 : Mm → Nat → Nat → Int32 → Option (Unit × Mm)} (hk58 : ∀ (u : Mm) (a0 : Nat) (a1 : Nat) (x4 : Int32), k58 u a0 a1 x4 = some (r, u') → Eg MX5_setOrderWords 1 0 0 (none, u') 58 [(0, .ref a0), (1, .ref a1), (4, .int x4)] [] u) (u : Mm) (a0 : Nat) (a1 : Nat) (x4 : Int32) (h : bX5_setOrderWords_58 k58 u a0 a1 x4 = some (r, u')) : Eg MX5_setOrderWords 1 0 0 (none, u') 58 [(0, .ref a0), (1, .ref a1), (4, .int x4)] [] u := by
  unfold bX5_setOrderWords_58 at h
  refine E_iload dX5_setOrderWords_58 rfl ?_
  refine E_iconst (v := 2) dX5_setOrderWords_60 (by decide) ?_
  refine E_ic_ge (tgt := 102) h dX5_setOrderWords_61 (by decide) (fun h => ?_) (fun h => ?_)
  · exact E_vret h dX5_setOrderWords_102 rfl
  · refine E_aload_n dX5_setOrderWords_64 rfl rfl ?_
    refine E_getA h dX5_setOrderWords_65 cf5 lk_X5_15 (by decide) (fun _ _ _ => rfl) (fun e9 h => ?_)
    refine E_bipush (v := 11) dX5_setOrderWords_68 (by decide) ?_
    refine E_iload dX5_setOrderWords_70 rfl ?_
    refine E_iadd dX5_setOrderWords_72 ?_
    refine E_aload_n dX5_setOrderWords_73 rfl rfl ?_
    refine E_iload dX5_setOrderWords_74 rfl ?_
    refine F_Vi h (fun a m e => tX1_supplyOf e) dX5_setOrderWords_76 hm_X1_supplyOf hv_X1_supplyOf ln_X5_29 rfl rfl (Nat.le_of_ble_eq_true rfl) (Nat.le_of_ble_eq_true rfl) (kc' := 0) (ks' := 0) rfl rfl (fun v10 u11 h => ?_)
    refine E_iast h dX5_setOrderWords_79 (fun h => ?_)
    refine E_oU h (fun u12 h => ?_)
    refine E_aload_n dX5_setOrderWords_80 rfl rfl ?_
    refine E_getA h dX5_setOrderWords_81 cf5 lk_X5_15 (by decide) (fun _ _ _ => rfl) (fun e13 h => ?_)
    refine E_bipush (v := 13) dX5_setOrderWords_84 (by decide) ?_
    refine E_iload dX5_setOrderWords_86 rfl ?_
    refine E_iadd dX5_setOrderWords_88 ?_
    refine E_aload_n dX5_setOrderWords_89 rfl rfl ?_
    refine E_iload dX5_setOrderWords_90 rfl ?_
    refine F_Vi h (fun a m e => tX1_temperOf e) dX5_setOrderWords_92 hm_X1_temperOf hv_X1_temperOf ln_X5_32 rfl rfl (Nat.le_of_ble_eq_true rfl) (Nat.le_of_ble_eq_true rfl) (kc' := 0) (ks' := 0) rfl rfl (fun v14 u15 h => ?_)
    refine E_iast h dX5_setOrderWords_95 (fun h => ?_)
    refine E_oU h (fun u16 h => ?_)
    refine E_iinc (j := 2) (v := x4 + 1) (l' := [(4, .int (x4 + 1)), (0, .ref a0), (1, .ref a1)]) dX5_setOrderWords_96 rfl (addI (by decide)) (Nat.le_of_ble_eq_true rfl) rfl ?_
    refine E_goto (tgt := 58) dX5_setOrderWords_99 (by decide) ?_
    refine Eg.pick [1, 2, 0] rfl ?_
    exact hk58 _ _ _ _ h
def rX5_setOrderWords_58 : Nat → Mm → Nat → Nat → Int32 → Option (Unit × Mm)
  | 0, _, _, _, _ => none
  | n + 1, u, a0, a1, x4 => bX5_setOrderWords_58 (rX5_setOrderWords_58 n) u a0 a1 x4
theorem prX5_setOrderWords_58 {r : Unit} {u' : Mm} : ∀ (n : Nat) (u : Mm) (a0 : Nat) (a1 : Nat) (x4 : Int32), rX5_setOrderWords_58 n u a0 a1 x4 = some (r, u') → Eg MX5_setOrderWords 1 0 0 (none, u') 58 [(0, .ref a0), (1, .ref a1), (4, .int x4)] [] u
  | 0, _, _, _, _, h => by cases h
  | n + 1, u, a0, a1, x4, h => pX5_setOrderWords_58 (prX5_setOrderWords_58 n) u a0 a1 x4 h
def bX5_setOrderWords_27 (k27 : Mm → Nat → Nat → Int32 → Option (Unit × Mm)) (u : Mm) (a0 : Nat) (a1 : Nat) (x4 : Int32) : Option (Unit × Mm) := (if (8 : Int32) ≤ x4 then rX5_setOrderWords_58 hwF u a0 a1 0 else oK u a0 5 2 (oNn (mR u a0 1) (fun e17 => oR u a1 1 (oB (fX1_lineAt u a1 x4) (fun v18 u19 => oA u19 e17 10 ((3 : Int32) + x4) (oU (wI u19 e17 (upd (mI u19 e17) (Int32.toNatClampNeg ((3 : Int32) + x4)) v18)) (fun u20 => k27 u20 a0 a1 (x4 + 1))))))))
set_option maxRecDepth 100000 in
set_option maxHeartbeats 4000000 in
theorem pX5_setOrderWords_27 {r : Unit} {u' : Mm} {k27 : Mm → Nat → Nat → Int32 → Option (Unit × Mm)} (hk27 : ∀ (u : Mm) (a0 : Nat) (a1 : Nat) (x4 : Int32), k27 u a0 a1 x4 = some (r, u') → Eg MX5_setOrderWords 1 0 0 (none, u') 27 [(0, .ref a0), (1, .ref a1), (4, .int x4)] [] u) (u : Mm) (a0 : Nat) (a1 : Nat) (x4 : Int32) (h : bX5_setOrderWords_27 k27 u a0 a1 x4 = some (r, u')) : Eg MX5_setOrderWords 1 0 0 (none, u') 27 [(0, .ref a0), (1, .ref a1), (4, .int x4)] [] u := by
  unfold bX5_setOrderWords_27 at h
  refine E_iload dX5_setOrderWords_27 rfl ?_
  refine E_bipush (v := 8) dX5_setOrderWords_29 (by decide) ?_
  refine E_ic_ge (tgt := 55) h dX5_setOrderWords_31 (by decide) (fun h => ?_) (fun h => ?_)
  · refine E_iconst (v := 0) dX5_setOrderWords_55 (by decide) ?_
    refine E_istore (l' := [(4, .int 0), (0, .ref a0), (1, .ref a1)]) dX5_setOrderWords_56 (Nat.le_of_ble_eq_true rfl) rfl ?_
    refine Eg.pick [1, 2, 0] rfl ?_
    exact prX5_setOrderWords_58 _ _ _ _ _ h
  · refine E_aload_n dX5_setOrderWords_34 rfl rfl ?_
    refine E_getA h dX5_setOrderWords_35 cf5 lk_X5_15 (by decide) (fun _ _ _ => rfl) (fun e17 h => ?_)
    refine E_iconst (v := 3) dX5_setOrderWords_38 (by decide) ?_
    refine E_iload dX5_setOrderWords_39 rfl ?_
    refine E_iadd dX5_setOrderWords_41 ?_
    refine E_aload_n dX5_setOrderWords_42 rfl rfl ?_
    refine E_iload dX5_setOrderWords_43 rfl ?_
    refine F_Vi h (fun a m e => tX1_lineAt e) dX5_setOrderWords_45 hm_X1_lineAt hv_X1_lineAt ln_X5_25 rfl rfl (Nat.le_of_ble_eq_true rfl) (Nat.le_of_ble_eq_true rfl) (kc' := 0) (ks' := 0) rfl rfl (fun v18 u19 h => ?_)
    refine E_iast h dX5_setOrderWords_48 (fun h => ?_)
    refine E_oU h (fun u20 h => ?_)
    refine E_iinc (j := 2) (v := x4 + 1) (l' := [(4, .int (x4 + 1)), (0, .ref a0), (1, .ref a1)]) dX5_setOrderWords_49 rfl (addI (by decide)) (Nat.le_of_ble_eq_true rfl) rfl ?_
    refine E_goto (tgt := 27) dX5_setOrderWords_52 (by decide) ?_
    refine Eg.pick [1, 2, 0] rfl ?_
    exact hk27 _ _ _ _ h
def rX5_setOrderWords_27 : Nat → Mm → Nat → Nat → Int32 → Option (Unit × Mm)
  | 0, _, _, _, _ => none
  | n + 1, u, a0, a1, x4 => bX5_setOrderWords_27 (rX5_setOrderWords_27 n) u a0 a1 x4
theorem prX5_setOrderWords_27 {r : Unit} {u' : Mm} : ∀ (n : Nat) (u : Mm) (a0 : Nat) (a1 : Nat) (x4 : Int32), rX5_setOrderWords_27 n u a0 a1 x4 = some (r, u') → Eg MX5_setOrderWords 1 0 0 (none, u') 27 [(0, .ref a0), (1, .ref a1), (4, .int x4)] [] u
  | 0, _, _, _, _, h => by cases h
  | n + 1, u, a0, a1, x4, h => pX5_setOrderWords_27 (prX5_setOrderWords_27 n) u a0 a1 x4 h
def fX5_setOrderWords (u : Mm) (a0 : Nat) (a1 : Nat) (x2 : Int32) (x3 : Int32) : Option (Unit × Mm) := oK u a0 5 2 (oNn (mR u a0 1) (fun e1 => oR u a1 1 (oB (fX1_theDay u a1) (fun v2 u3 => oA u3 e1 10 0 (oU (wI u3 e1 (upd (mI u3 e1) (Int32.toNatClampNeg 0) v2)) (fun u4 => oK u4 a0 5 2 (oNn (mR u4 a0 1) (fun e5 => oA u4 e5 10 1 (oU (wI u4 e5 (upd (mI u4 e5) (Int32.toNatClampNeg 1) x2)) (fun u6 => oK u6 a0 5 2 (oNn (mR u6 a0 1) (fun e7 => oA u6 e7 10 2 (oU (wI u6 e7 (upd (mI u6 e7) (Int32.toNatClampNeg 2) x3)) (fun u8 => rX5_setOrderWords_27 hwF u8 a0 a1 0))))))))))))))
set_option maxRecDepth 100000 in
set_option maxHeartbeats 4000000 in
theorem tX5_setOrderWords {u : Mm} {a0 : Nat} {a1 : Nat} {x2 : Int32} {x3 : Int32} {r : Unit} {u' : Mm} (h : fX5_setOrderWords u a0 a1 x2 x3 = some (r, u')) : Ev 1 MX5_setOrderWords 0 0 [.ref a0, .ref a1, .int x2, .int x3] u (none, u') := by
  refine Ev.of (by decide +kernel) (Nat.le_of_ble_eq_true rfl) (show Eg MX5_setOrderWords 1 0 0 (none, u') 0 [(0, .ref a0), (1, .ref a1), (2, .int x2), (3, .int x3)] [] u from ?_)
  unfold fX5_setOrderWords at h
  refine E_aload_n dX5_setOrderWords_0 rfl rfl ?_
  refine E_getA h dX5_setOrderWords_1 cf5 lk_X5_15 (by decide) (fun _ _ _ => rfl) (fun e1 h => ?_)
  refine E_iconst (v := 0) dX5_setOrderWords_4 (by decide) ?_
  refine E_aload_n dX5_setOrderWords_5 rfl rfl ?_
  refine F_Vi h (fun a m e => tX1_theDay e) dX5_setOrderWords_6 hm_X1_theDay hv_X1_theDay ln_X5_19 rfl rfl (Nat.le_of_ble_eq_true rfl) (Nat.le_of_ble_eq_true rfl) (kc' := 0) (ks' := 0) rfl rfl (fun v2 u3 h => ?_)
  refine E_iast h dX5_setOrderWords_9 (fun h => ?_)
  refine E_oU h (fun u4 h => ?_)
  refine E_aload_n dX5_setOrderWords_10 rfl rfl ?_
  refine E_getA h dX5_setOrderWords_11 cf5 lk_X5_15 (by decide) (fun _ _ _ => rfl) (fun e5 h => ?_)
  refine E_iconst (v := 1) dX5_setOrderWords_14 (by decide) ?_
  refine E_iload_n dX5_setOrderWords_15 rfl rfl ?_
  refine E_iast h dX5_setOrderWords_16 (fun h => ?_)
  refine E_oU h (fun u6 h => ?_)
  refine E_aload_n dX5_setOrderWords_17 rfl rfl ?_
  refine E_getA h dX5_setOrderWords_18 cf5 lk_X5_15 (by decide) (fun _ _ _ => rfl) (fun e7 h => ?_)
  refine E_iconst (v := 2) dX5_setOrderWords_21 (by decide) ?_
  refine E_iload_n dX5_setOrderWords_22 rfl rfl ?_
  refine E_iast h dX5_setOrderWords_23 (fun h => ?_)
  refine E_oU h (fun u8 h => ?_)
  refine E_iconst (v := 0) dX5_setOrderWords_24 (by decide) ?_
  refine E_istore (l' := [(4, .int 0), (0, .ref a0), (1, .ref a1), (2, .int x2), (3, .int x3)]) dX5_setOrderWords_25 (Nat.le_of_ble_eq_true rfl) rfl ?_
  refine Eg.pick [1, 2, 0] rfl ?_
  exact prX5_setOrderWords_27 _ _ _ _ _ h
def fX6_init_ (u : Mm) (a0 : Nat) (a1 : Nat) : Option (Unit × Mm) := oK u a1 6 7 (oI (mI u a1 2) (fun v1 => oK u a0 6 7 (oU (wI u a0 (upd (mI u a0) 2 v1)) (fun u2 => oK u2 a0 6 7 (oI (mI u2 a0 2) (fun v3 => oN 401 v3 (oP (mN u2) (fun e4 => oU (wN u2 10 (Int32.toNatClampNeg v3)) (fun u5 => oK u5 a0 6 7 (oU (wR u5 a0 (va_up (mR u5 a0) 0 (some e4))) (fun u6 => oK u6 a0 6 7 (oI (mI u6 a0 2) (fun v7 => oN 401 v7 (oP (mN u6) (fun e8 => oU (wN u6 10 (Int32.toNatClampNeg v7)) (fun u9 => oK u9 a0 6 7 (oU (wR u9 a0 (va_up (mR u9 a0) 1 (some e8))) (fun u10 => oK u10 a1 6 7 (oNn (mR u10 a1 0) (fun e11 => oK u10 a0 6 7 (oNn (mR u10 a0 0) (fun e12 => oK u10 a0 6 7 (oI (mI u10 a0 2) (fun v13 => oC u10 e11 e12 0 0 v13 (oU (wI u10 e12 (va_cpy (mI u10 e11) (mI u10 e12) (Int32.toNatClampNeg 0) (Int32.toNatClampNeg 0) (Int32.toNatClampNeg v13))) (fun u14 => oK u14 a1 6 7 (oNn (mR u14 a1 1) (fun e15 => oK u14 a0 6 7 (oNn (mR u14 a0 1) (fun e16 => oK u14 a0 6 7 (oI (mI u14 a0 2) (fun v17 => oC u14 e15 e16 0 0 v17 (oU (wI u14 e16 (va_cpy (mI u14 e15) (mI u14 e16) (Int32.toNatClampNeg 0) (Int32.toNatClampNeg 0) (Int32.toNatClampNeg v17))) (fun u18 => oK u18 a1 6 7 (oI (mI u18 a1 6) (fun v19 => oK u18 a0 6 7 (oU (wI u18 a0 (upd (mI u18 a0) 6 v19)) (fun u20 => oK u20 a0 6 7 (oI (mI u20 a0 6) (fun v21 => oN 12 v21 (oP (mN u20) (fun e22 => oU (wN u20 10 (Int32.toNatClampNeg v21)) (fun u23 => oK u23 a0 6 7 (oU (wR u23 a0 (va_up (mR u23 a0) 3 (some e22))) (fun u24 => oK u24 a0 6 7 (oI (mI u24 a0 6) (fun v25 => oN 12 v25 (oP (mN u24) (fun e26 => oU (wN u24 10 (Int32.toNatClampNeg v25)) (fun u27 => oK u27 a0 6 7 (oU (wR u27 a0 (va_up (mR u27 a0) 4 (some e26))) (fun u28 => oK u28 a0 6 7 (oI (mI u28 a0 6) (fun v29 => oN 48 (v29 * 4) (oP (mN u28) (fun e30 => oU (wN u28 10 (Int32.toNatClampNeg (v29 * 4))) (fun u31 => oK u31 a0 6 7 (oU (wR u31 a0 (va_up (mR u31 a0) 5 (some e30))) (fun u32 => oK u32 a1 6 7 (oNn (mR u32 a1 3) (fun e33 => oK u32 a0 6 7 (oNn (mR u32 a0 3) (fun e34 => oK u32 a0 6 7 (oI (mI u32 a0 6) (fun v35 => oC u32 e33 e34 0 0 v35 (oU (wI u32 e34 (va_cpy (mI u32 e33) (mI u32 e34) (Int32.toNatClampNeg 0) (Int32.toNatClampNeg 0) (Int32.toNatClampNeg v35))) (fun u36 => oK u36 a1 6 7 (oNn (mR u36 a1 4) (fun e37 => oK u36 a0 6 7 (oNn (mR u36 a0 4) (fun e38 => oK u36 a0 6 7 (oI (mI u36 a0 6) (fun v39 => oC u36 e37 e38 0 0 v39 (oU (wI u36 e38 (va_cpy (mI u36 e37) (mI u36 e38) (Int32.toNatClampNeg 0) (Int32.toNatClampNeg 0) (Int32.toNatClampNeg v39))) (fun u40 => oK u40 a1 6 7 (oNn (mR u40 a1 5) (fun e41 => oK u40 a0 6 7 (oNn (mR u40 a0 5) (fun e42 => oK u40 a0 6 7 (oI (mI u40 a0 6) (fun v43 => oC u40 e41 e42 0 0 (v43 * 4) (oU (wI u40 e42 (va_cpy (mI u40 e41) (mI u40 e42) (Int32.toNatClampNeg 0) (Int32.toNatClampNeg 0) (Int32.toNatClampNeg (v43 * 4)))) (fun u44 => some ((), u44))))))))))))))))))))))))))))))))))))))))))))))))))))))))))))))))))))))))))))))))))))
set_option maxRecDepth 100000 in
set_option maxHeartbeats 4000000 in
theorem tX6_init_ {u : Mm} {a0 : Nat} {a1 : Nat} {r : Unit} {u' : Mm} (h : fX6_init_ u a0 a1 = some (r, u')) : Ev 1 MX6_init_ 5 874 [.ref a0, .ref a1] u (none, u') := by
  refine Ev.of (by decide +kernel) (Nat.le_of_ble_eq_true rfl) (show Eg MX6_init_ 1 5 874 (none, u') 0 [(0, .ref a0), (1, .ref a1)] [] u from ?_)
  unfold fX6_init_ at h
  refine E_aload_n dX6_init__0 rfl rfl ?_
  refine E_objInit dX6_init__1 ln_X6_3 oi_2 oi_3 (Nat.le_of_ble_eq_true rfl) (Nat.le_of_ble_eq_true rfl) ?_
  refine E_aload_n dX6_init__4 rfl rfl ?_
  refine E_aload_n dX6_init__5 rfl rfl ?_
  refine E_getI h dX6_init__6 cf6 lk_X6_27 (by decide) (fun _ _ _ => rfl) (fun h => ?_)
  refine E_oI h (fun v1 h => ?_)
  refine E_putI h dX6_init__9 cf6 lk_X6_27 (by decide) (Or.inl rfl) rfl (fun h => ?_)
  refine E_oU h (fun u2 h => ?_)
  refine E_aload_n dX6_init__12 rfl rfl ?_
  refine E_aload_n dX6_init__13 rfl rfl ?_
  refine E_getI h dX6_init__14 cf6 lk_X6_27 (by decide) (fun _ _ _ => rfl) (fun h => ?_)
  refine E_oI h (fun v3 h => ?_)
  refine E_newI h dX6_init__17 aw_int (by decide) (kc' := 4) (ks' := 473) rfl rfl (fun h => ?_)
  refine E_oP h (fun e4 h => ?_)
  refine E_oU h (fun u5 h => ?_)
  refine E_putR h dX6_init__19 cf6 lk_X6_9 (by decide) (Or.inr ⟨rfl, rfl, rfl, lkm_X6_9⟩) (Or.inr ⟨_, rfl⟩) (fun h => ?_)
  refine E_oU h (fun u6 h => ?_)
  refine E_aload_n dX6_init__22 rfl rfl ?_
  refine E_aload_n dX6_init__23 rfl rfl ?_
  refine E_getI h dX6_init__24 cf6 lk_X6_27 (by decide) (fun _ _ _ => rfl) (fun h => ?_)
  refine E_oI h (fun v7 h => ?_)
  refine E_newI h dX6_init__27 aw_int (by decide) (kc' := 3) (ks' := 72) rfl rfl (fun h => ?_)
  refine E_oP h (fun e8 h => ?_)
  refine E_oU h (fun u9 h => ?_)
  refine E_putR h dX6_init__29 cf6 lk_X6_15 (by decide) (Or.inr ⟨rfl, rfl, rfl, lkm_X6_15⟩) (Or.inr ⟨_, rfl⟩) (fun h => ?_)
  refine E_oU h (fun u10 h => ?_)
  refine E_aload_n dX6_init__32 rfl rfl ?_
  refine E_getA h dX6_init__33 cf6 lk_X6_9 (by decide) (fun _ _ _ => rfl) (fun e11 h => ?_)
  refine E_iconst (v := 0) dX6_init__36 (by decide) ?_
  refine E_aload_n dX6_init__37 rfl rfl ?_
  refine E_getA h dX6_init__38 cf6 lk_X6_9 (by decide) (fun _ _ _ => rfl) (fun e12 h => ?_)
  refine E_iconst (v := 0) dX6_init__41 (by decide) ?_
  refine E_aload_n dX6_init__42 rfl rfl ?_
  refine E_getI h dX6_init__43 cf6 lk_X6_27 (by decide) (fun _ _ _ => rfl) (fun h => ?_)
  refine E_oI h (fun v13 h => ?_)
  refine E_copy h dX6_init__46 ln_X6_31 ac_2 ac_3 ac_4 (Nat.le_of_ble_eq_true rfl) (Nat.le_of_ble_eq_true rfl) (fun h => ?_)
  refine E_oU h (fun u14 h => ?_)
  refine E_aload_n dX6_init__49 rfl rfl ?_
  refine E_getA h dX6_init__50 cf6 lk_X6_15 (by decide) (fun _ _ _ => rfl) (fun e15 h => ?_)
  refine E_iconst (v := 0) dX6_init__53 (by decide) ?_
  refine E_aload_n dX6_init__54 rfl rfl ?_
  refine E_getA h dX6_init__55 cf6 lk_X6_15 (by decide) (fun _ _ _ => rfl) (fun e16 h => ?_)
  refine E_iconst (v := 0) dX6_init__58 (by decide) ?_
  refine E_aload_n dX6_init__59 rfl rfl ?_
  refine E_getI h dX6_init__60 cf6 lk_X6_27 (by decide) (fun _ _ _ => rfl) (fun h => ?_)
  refine E_oI h (fun v17 h => ?_)
  refine E_copy h dX6_init__63 ln_X6_31 ac_2 ac_3 ac_4 (Nat.le_of_ble_eq_true rfl) (Nat.le_of_ble_eq_true rfl) (fun h => ?_)
  refine E_oU h (fun u18 h => ?_)
  refine E_aload_n dX6_init__66 rfl rfl ?_
  refine E_aload_n dX6_init__67 rfl rfl ?_
  refine E_getI h dX6_init__68 cf6 lk_X6_37 (by decide) (fun _ _ _ => rfl) (fun h => ?_)
  refine E_oI h (fun v19 h => ?_)
  refine E_putI h dX6_init__71 cf6 lk_X6_37 (by decide) (Or.inl rfl) rfl (fun h => ?_)
  refine E_oU h (fun u20 h => ?_)
  refine E_aload_n dX6_init__74 rfl rfl ?_
  refine E_aload_n dX6_init__75 rfl rfl ?_
  refine E_getI h dX6_init__76 cf6 lk_X6_37 (by decide) (fun _ _ _ => rfl) (fun h => ?_)
  refine E_oI h (fun v21 h => ?_)
  refine E_newI h dX6_init__79 aw_int (by decide) (kc' := 2) (ks' := 60) rfl rfl (fun h => ?_)
  refine E_oP h (fun e22 h => ?_)
  refine E_oU h (fun u23 h => ?_)
  refine E_putR h dX6_init__81 cf6 lk_X6_18 (by decide) (Or.inr ⟨rfl, rfl, rfl, lkm_X6_18⟩) (Or.inr ⟨_, rfl⟩) (fun h => ?_)
  refine E_oU h (fun u24 h => ?_)
  refine E_aload_n dX6_init__84 rfl rfl ?_
  refine E_aload_n dX6_init__85 rfl rfl ?_
  refine E_getI h dX6_init__86 cf6 lk_X6_37 (by decide) (fun _ _ _ => rfl) (fun h => ?_)
  refine E_oI h (fun v25 h => ?_)
  refine E_newI h dX6_init__89 aw_int (by decide) (kc' := 1) (ks' := 48) rfl rfl (fun h => ?_)
  refine E_oP h (fun e26 h => ?_)
  refine E_oU h (fun u27 h => ?_)
  refine E_putR h dX6_init__91 cf6 lk_X6_21 (by decide) (Or.inr ⟨rfl, rfl, rfl, lkm_X6_21⟩) (Or.inr ⟨_, rfl⟩) (fun h => ?_)
  refine E_oU h (fun u28 h => ?_)
  refine E_aload_n dX6_init__94 rfl rfl ?_
  refine E_aload_n dX6_init__95 rfl rfl ?_
  refine E_getI h dX6_init__96 cf6 lk_X6_37 (by decide) (fun _ _ _ => rfl) (fun h => ?_)
  refine E_oI h (fun v29 h => ?_)
  refine E_iconst (v := 4) dX6_init__99 (by decide) ?_
  refine E_imul dX6_init__100 ?_
  refine E_newI h dX6_init__101 aw_int (by decide) (kc' := 0) (ks' := 0) rfl rfl (fun h => ?_)
  refine E_oP h (fun e30 h => ?_)
  refine E_oU h (fun u31 h => ?_)
  refine E_putR h dX6_init__103 cf6 lk_X6_24 (by decide) (Or.inr ⟨rfl, rfl, rfl, lkm_X6_24⟩) (Or.inr ⟨_, rfl⟩) (fun h => ?_)
  refine E_oU h (fun u32 h => ?_)
  refine E_aload_n dX6_init__106 rfl rfl ?_
  refine E_getA h dX6_init__107 cf6 lk_X6_18 (by decide) (fun _ _ _ => rfl) (fun e33 h => ?_)
  refine E_iconst (v := 0) dX6_init__110 (by decide) ?_
  refine E_aload_n dX6_init__111 rfl rfl ?_
  refine E_getA h dX6_init__112 cf6 lk_X6_18 (by decide) (fun _ _ _ => rfl) (fun e34 h => ?_)
  refine E_iconst (v := 0) dX6_init__115 (by decide) ?_
  refine E_aload_n dX6_init__116 rfl rfl ?_
  refine E_getI h dX6_init__117 cf6 lk_X6_37 (by decide) (fun _ _ _ => rfl) (fun h => ?_)
  refine E_oI h (fun v35 h => ?_)
  refine E_copy h dX6_init__120 ln_X6_31 ac_2 ac_3 ac_4 (Nat.le_of_ble_eq_true rfl) (Nat.le_of_ble_eq_true rfl) (fun h => ?_)
  refine E_oU h (fun u36 h => ?_)
  refine E_aload_n dX6_init__123 rfl rfl ?_
  refine E_getA h dX6_init__124 cf6 lk_X6_21 (by decide) (fun _ _ _ => rfl) (fun e37 h => ?_)
  refine E_iconst (v := 0) dX6_init__127 (by decide) ?_
  refine E_aload_n dX6_init__128 rfl rfl ?_
  refine E_getA h dX6_init__129 cf6 lk_X6_21 (by decide) (fun _ _ _ => rfl) (fun e38 h => ?_)
  refine E_iconst (v := 0) dX6_init__132 (by decide) ?_
  refine E_aload_n dX6_init__133 rfl rfl ?_
  refine E_getI h dX6_init__134 cf6 lk_X6_37 (by decide) (fun _ _ _ => rfl) (fun h => ?_)
  refine E_oI h (fun v39 h => ?_)
  refine E_copy h dX6_init__137 ln_X6_31 ac_2 ac_3 ac_4 (Nat.le_of_ble_eq_true rfl) (Nat.le_of_ble_eq_true rfl) (fun h => ?_)
  refine E_oU h (fun u40 h => ?_)
  refine E_aload_n dX6_init__140 rfl rfl ?_
  refine E_getA h dX6_init__141 cf6 lk_X6_24 (by decide) (fun _ _ _ => rfl) (fun e41 h => ?_)
  refine E_iconst (v := 0) dX6_init__144 (by decide) ?_
  refine E_aload_n dX6_init__145 rfl rfl ?_
  refine E_getA h dX6_init__146 cf6 lk_X6_24 (by decide) (fun _ _ _ => rfl) (fun e42 h => ?_)
  refine E_iconst (v := 0) dX6_init__149 (by decide) ?_
  refine E_aload_n dX6_init__150 rfl rfl ?_
  refine E_getI h dX6_init__151 cf6 lk_X6_37 (by decide) (fun _ _ _ => rfl) (fun h => ?_)
  refine E_oI h (fun v43 h => ?_)
  refine E_iconst (v := 4) dX6_init__154 (by decide) ?_
  refine E_imul dX6_init__155 ?_
  refine E_copy h dX6_init__156 ln_X6_31 ac_2 ac_3 ac_4 (Nat.le_of_ble_eq_true rfl) (Nat.le_of_ble_eq_true rfl) (fun h => ?_)
  refine E_oU h (fun u44 h => ?_)
  exact E_vret h dX6_init__159 rfl
def fX7_init (u : Mm) (a0 : Nat) (a1 : Nat) : Option (Unit × Mm) := oP (mN u) (fun e1 => oU (wN u 5 2) (fun u2 => oB (fX5_init u2 e1) (fun _ u3 => oK u3 a0 7 2 (oU (wR u3 a0 (va_up (mR u3 a0) 1 (some e1))) (fun u4 => oK u4 a0 7 2 (oU (wR u4 a0 (va_up (mR u4 a0) 0 (some a1))) (fun u5 => some ((), u5))))))))
set_option maxRecDepth 100000 in
set_option maxHeartbeats 4000000 in
theorem tX7_init {u : Mm} {a0 : Nat} {a1 : Nat} {r : Unit} {u' : Mm} (h : fX7_init u a0 a1 = some (r, u')) : Ev 2 MX7_init 3 68 [.ref a0, .ref a1] u (none, u') := by
  refine Ev.of (by decide +kernel) (Nat.le_of_ble_eq_true rfl) (show Eg MX7_init 2 3 68 (none, u') 0 [(0, .ref a0), (1, .ref a1)] [] u from ?_)
  unfold fX7_init at h
  refine E_aload_n dX7_init_0 rfl rfl ?_
  refine E_objInit dX7_init_1 ln_X7_3 oi_2 oi_3 (Nat.le_of_ble_eq_true rfl) (Nat.le_of_ble_eq_true rfl) ?_
  refine E_aload_n dX7_init_4 rfl rfl ?_
  refine E_new dX7_init_5 cf5 cl_X7_9 in_X5 ini_X5 nf_X5 (kc' := 2) (ks' := 66) rfl rfl ?_
  refine E_oP h (fun e1 h => ?_)
  refine E_oU h (fun u2 h => ?_)
  refine E_dup dX7_init_8 rfl ?_
  refine F_Iv h (fun m e => tX5_init e) rfl dX7_init_9 hm_X5_init rfl hi_X5_init ln_X7_11 rfl rfl (Nat.le_of_ble_eq_true rfl) (Nat.le_of_ble_eq_true rfl) (kc' := 0) (ks' := 0) rfl rfl (fun u3 h => ?_)
  refine E_putR h dX7_init_12 cf7 lk_X7_12 (by decide) (Or.inr ⟨rfl, rfl, rfl, lkm_X7_12⟩) (Or.inl ⟨_, rfl⟩) (fun h => ?_)
  refine E_oU h (fun u4 h => ?_)
  refine E_aload_n dX7_init_15 rfl rfl ?_
  refine E_aload_n dX7_init_16 rfl rfl ?_
  refine E_putR h dX7_init_17 cf7 lk_X7_18 (by decide) (Or.inr ⟨rfl, rfl, rfl, lkm_X7_18⟩) (Or.inl ⟨_, rfl⟩) (fun h => ?_)
  refine E_oU h (fun u5 h => ?_)
  exact E_vret h dX7_init_20 rfl
def fX7_feedOf (u : Mm) (a0 : Nat) (a1 : Nat) (x2 : Int32) : Option (Int32 × Mm) := oK u a0 7 2 (oNn (mR u a0 1) (fun e1 => oK u a0 7 2 (oNn (mR u a0 0) (fun e2 => oK u e2 0 16 (oI (mI u e2 12) (fun v3 => oR u e1 5 (oB (fX5_setLawWords u e1 a1 x2 v3) (fun _ u4 => oK u4 a0 7 2 (oNn (mR u4 a0 1) (fun e5 => oK u4 e5 5 2 (oNn (mR u4 e5 1) (fun e6 => oR u4 a1 1 (oB (fX1_menOf u4 a1 x2) (fun v7 u8 => oA u8 e6 10 3 (oU (wI u8 e6 (upd (mI u8 e6) (Int32.toNatClampNeg 3) v7)) (fun u9 => oK u9 a0 7 2 (oNn (mR u9 a0 1) (fun e10 => oK u9 a0 7 2 (oNn (mR u9 a0 0) (fun e11 => oR u9 e11 0 (oB (fX0_lawInForce u9 e11) (fun g12 u13 => oR u13 e10 5 (oB (fX5_toldBy u13 e10 g12 258 3) (fun v14 u15 => oB (fJ9_min_7cf53 u15 v14 99) (fun v16 u17 => oB (fJ9_max_7cf53 u17 0 v16) (fun v18 u19 => some (v18, u19)))))))))))))))))))))))))))
set_option maxRecDepth 100000 in
set_option maxHeartbeats 4000000 in
theorem tX7_feedOf {u : Mm} {a0 : Nat} {a1 : Nat} {x2 : Int32} {r : Int32} {u' : Mm} (h : fX7_feedOf u a0 a1 x2 = some (r, u')) : Ev 3 MX7_feedOf 0 0 [.ref a0, .ref a1, .int x2] u (some (.int r), u') := by
  refine Ev.of (by decide +kernel) (Nat.le_of_ble_eq_true rfl) (show Eg MX7_feedOf 3 0 0 (some (.int r), u') 0 [(0, .ref a0), (1, .ref a1), (2, .int x2)] [] u from ?_)
  unfold fX7_feedOf at h
  refine E_aload_n dX7_feedOf_0 rfl rfl ?_
  refine E_getA h dX7_feedOf_1 cf7 lk_X7_12 (by decide) (fun _ _ _ => rfl) (fun e1 h => ?_)
  refine E_aload_n dX7_feedOf_4 rfl rfl ?_
  refine E_iload_n dX7_feedOf_5 rfl rfl ?_
  refine E_aload_n dX7_feedOf_6 rfl rfl ?_
  refine E_getA h dX7_feedOf_7 cf7 lk_X7_18 (by decide) (fun _ _ _ => rfl) (fun e2 h => ?_)
  refine E_getI h dX7_feedOf_10 cf0 lk_X7_22 (by decide) (fun _ _ _ => rfl) (fun h => ?_)
  refine E_oI h (fun v3 h => ?_)
  refine F_Vv h (fun m e => tX5_setLawWords e) dX7_feedOf_13 hm_X5_setLawWords hv_X5_setLawWords ln_X7_28 rfl rfl (Nat.le_of_ble_eq_true rfl) (Nat.le_of_ble_eq_true rfl) (kc' := 0) (ks' := 0) rfl rfl (fun u4 h => ?_)
  refine E_aload_n dX7_feedOf_16 rfl rfl ?_
  refine E_getA h dX7_feedOf_17 cf7 lk_X7_12 (by decide) (fun _ _ _ => rfl) (fun e5 h => ?_)
  refine E_getA h dX7_feedOf_20 cf5 lk_X7_52 (by decide) (fun _ _ _ => rfl) (fun e6 h => ?_)
  refine E_iconst (v := 3) dX7_feedOf_23 (by decide) ?_
  refine E_aload_n dX7_feedOf_24 rfl rfl ?_
  refine E_iload_n dX7_feedOf_25 rfl rfl ?_
  refine F_Vi h (fun a m e => tX1_menOf e) dX7_feedOf_26 hm_X1_menOf hv_X1_menOf ln_X7_56 rfl rfl (Nat.le_of_ble_eq_true rfl) (Nat.le_of_ble_eq_true rfl) (kc' := 0) (ks' := 0) rfl rfl (fun v7 u8 h => ?_)
  refine E_iast h dX7_feedOf_29 (fun h => ?_)
  refine E_oU h (fun u9 h => ?_)
  refine E_aload_n dX7_feedOf_30 rfl rfl ?_
  refine E_getA h dX7_feedOf_31 cf7 lk_X7_12 (by decide) (fun _ _ _ => rfl) (fun e10 h => ?_)
  refine E_aload_n dX7_feedOf_34 rfl rfl ?_
  refine E_getA h dX7_feedOf_35 cf7 lk_X7_18 (by decide) (fun _ _ _ => rfl) (fun e11 h => ?_)
  refine F_Vq h (fun a m e => tX0_lawInForce e) dX7_feedOf_38 hm_X0_lawInForce hv_X0_lawInForce ln_X7_48 rfl rfl (Nat.le_of_ble_eq_true rfl) (Nat.le_of_ble_eq_true rfl) (kc' := 0) (ks' := 0) rfl rfl (fun g12 u13 h => ?_)
  refine E_sipush (v := 258) dX7_feedOf_41 (by decide) ?_
  refine E_iconst (v := 3) dX7_feedOf_44 (by decide) ?_
  refine F_Vi h (fun a m e => tX5_toldBy e) dX7_feedOf_45 hm_X5_toldBy hv_X5_toldBy ln_X7_35 rfl rfl (Nat.le_of_ble_eq_true rfl) (Nat.le_of_ble_eq_true rfl) (kc' := 0) (ks' := 0) rfl rfl (fun v14 u15 h => ?_)
  refine E_istore_n (l' := [(3, .int v14), (0, .ref a0), (1, .ref a1), (2, .int x2)]) dX7_feedOf_48 rfl (Nat.le_of_ble_eq_true rfl) rfl ?_
  refine E_iconst (v := 0) dX7_feedOf_49 (by decide) ?_
  refine E_iload_n dX7_feedOf_50 rfl rfl ?_
  refine E_bipush (v := 99) dX7_feedOf_51 (by decide) ?_
  refine F_Si h (fun a m e => tJ9_min_7cf53 e) dX7_feedOf_53 hm_J9_min_7cf53 hs_J9_min_7cf53 ln_X7_39 rfl rfl (Nat.le_of_ble_eq_true rfl) (Nat.le_of_ble_eq_true rfl) (kc' := 0) (ks' := 0) rfl rfl (fun v16 u17 h => ?_)
  refine F_Si h (fun a m e => tJ9_max_7cf53 e) dX7_feedOf_56 hm_J9_max_7cf53 hs_J9_max_7cf53 ln_X7_45 rfl rfl (Nat.le_of_ble_eq_true rfl) (Nat.le_of_ble_eq_true rfl) (kc' := 0) (ks' := 0) rfl rfl (fun v18 u19 h => ?_)
  exact E_iret h dX7_feedOf_59 rfl
def fX8_isSide (u : Mm) (x0 : Int32) : Option (Int32 × Mm) := oB (fX8_within u x0 0 1) (fun v1 u2 => oZ v1 (some (v1, u2)))
set_option maxRecDepth 100000 in
set_option maxHeartbeats 4000000 in
theorem tX8_isSide {u : Mm} {x0 : Int32} {r : Int32} {u' : Mm} (h : fX8_isSide u x0 = some (r, u')) : Ev 1 MX8_isSide 0 0 [.int x0] u (some (.int r), u') := by
  refine Ev.of (by decide +kernel) (Nat.le_of_ble_eq_true rfl) (show Eg MX8_isSide 1 0 0 (some (.int r), u') 0 [(0, .int x0)] [] u from ?_)
  unfold fX8_isSide at h
  refine E_iload_n dX8_isSide_0 rfl rfl ?_
  refine E_iconst (v := 0) dX8_isSide_1 (by decide) ?_
  refine E_iconst (v := 1) dX8_isSide_2 (by decide) ?_
  refine F_Si h (fun a m e => tX8_within e) dX8_isSide_3 hm_X8_within hs_X8_within ln_X8_92 rfl rfl (Nat.le_of_ble_eq_true rfl) (Nat.le_of_ble_eq_true rfl) (kc' := 0) (ks' := 0) rfl rfl (fun v1 u2 h => ?_)
  exact E_zret h dX8_isSide_6 rfl
def fX8_isColumn (u : Mm) (x0 : Int32) : Option (Int32 × Mm) := oB (fX8_within u x0 0 7) (fun v1 u2 => oZ v1 (some (v1, u2)))
set_option maxRecDepth 100000 in
set_option maxHeartbeats 4000000 in
theorem tX8_isColumn {u : Mm} {x0 : Int32} {r : Int32} {u' : Mm} (h : fX8_isColumn u x0 = some (r, u')) : Ev 1 MX8_isColumn 0 0 [.int x0] u (some (.int r), u') := by
  refine Ev.of (by decide +kernel) (Nat.le_of_ble_eq_true rfl) (show Eg MX8_isColumn 1 0 0 (some (.int r), u') 0 [(0, .int x0)] [] u from ?_)
  unfold fX8_isColumn at h
  refine E_iload_n dX8_isColumn_0 rfl rfl ?_
  refine E_iconst (v := 0) dX8_isColumn_1 (by decide) ?_
  refine E_bipush (v := 7) dX8_isColumn_2 (by decide) ?_
  refine F_Si h (fun a m e => tX8_within e) dX8_isColumn_4 hm_X8_within hs_X8_within ln_X8_92 rfl rfl (Nat.le_of_ble_eq_true rfl) (Nat.le_of_ble_eq_true rfl) (kc' := 0) (ks' := 0) rfl rfl (fun v1 u2 h => ?_)
  exact E_zret h dX8_isColumn_7 rfl
def bX7_doAttack_181 (u : Mm) (s0 : Int32) : Option (Int32 × Mm) := some (s0, u)
set_option maxRecDepth 100000 in
set_option maxHeartbeats 4000000 in
theorem pX7_doAttack_181 {r : Int32} {u' : Mm} (u : Mm) (s0 : Int32) (h : bX7_doAttack_181 u s0 = some (r, u')) : Eg MX7_doAttack 4 0 0 (some (.int r), u') 181 [] [.int s0] u := by
  unfold bX7_doAttack_181 at h
  exact E_iret h dX7_doAttack_181 rfl
def bX7_doAttack_171 (u : Mm) (x6 : Int32) : Option (Int32 × Mm) := (if (x6 : Int32) = 0 then bX7_doAttack_181 u 0 else bX7_doAttack_181 u 1)
set_option maxRecDepth 100000 in
set_option maxHeartbeats 4000000 in
theorem pX7_doAttack_171 {r : Int32} {u' : Mm} (u : Mm) (x6 : Int32) (h : bX7_doAttack_171 u x6 = some (r, u')) : Eg MX7_doAttack 4 0 0 (some (.int r), u') 171 [(6, .int x6)] [] u := by
  unfold bX7_doAttack_171 at h
  refine E_iload dX7_doAttack_171 rfl ?_
  refine E_if_eq (tgt := 180) h dX7_doAttack_173 (by decide) (fun h => ?_) (fun h => ?_)
  · refine E_iconst (v := 0) dX7_doAttack_180 (by decide) ?_
    refine Eg.pick [] rfl ?_
    exact pX7_doAttack_181 _ _ h
  · refine E_iconst (v := 1) dX7_doAttack_176 (by decide) ?_
    refine E_goto (tgt := 181) dX7_doAttack_177 (by decide) ?_
    refine Eg.pick [] rfl ?_
    exact pX7_doAttack_181 _ _ h
def bX7_doAttack_167 (u : Mm) (x6 : Int32) (s0 : Int32) (s1 : Int32) (s2 : Int32) (s3 : Nat) : Option (Int32 × Mm) := oR u s3 1 (oB (fX1_setLine u s3 s2 (s1 + s0)) (fun _ u26 => bX7_doAttack_171 u26 x6))
set_option maxRecDepth 100000 in
set_option maxHeartbeats 4000000 in
theorem pX7_doAttack_167 {r : Int32} {u' : Mm} (u : Mm) (x6 : Int32) (s0 : Int32) (s1 : Int32) (s2 : Int32) (s3 : Nat) (h : bX7_doAttack_167 u x6 s0 s1 s2 s3 = some (r, u')) : Eg MX7_doAttack 4 0 0 (some (.int r), u') 167 [(6, .int x6)] [.int s0, .int s1, .int s2, .ref s3] u := by
  unfold bX7_doAttack_167 at h
  refine E_iadd dX7_doAttack_167 ?_
  refine F_Vv h (fun m e => tX1_setLine e) dX7_doAttack_168 hm_X1_setLine hv_X1_setLine ln_X7_107 rfl rfl (Nat.le_of_ble_eq_true rfl) (Nat.le_of_ble_eq_true rfl) (kc' := 0) (ks' := 0) rfl rfl (fun u26 h => ?_)
  refine Eg.pick [0] rfl ?_
  exact pX7_doAttack_171 _ _ h
def bX7_doAttack_121 (u : Mm) (a1 : Nat) (x2 : Int32) (x3 : Int32) (x6 : Int32) (s0 : Int32) : Option (Int32 × Mm) := oR u a1 1 (oB (fX1_menAt u a1 s0 x3) (fun v21 u22 => (if (2 : Int32) ≠ 0 then oR u22 a1 1 (oB (fX1_setMen u22 a1 s0 x3 (v21 - (v21 / 2))) (fun _ u23 => (if (x6 : Int32) = 0 then bX7_doAttack_171 u23 x6 else oR u23 a1 1 (oB (fX1_lineAt u23 a1 x3) (fun v24 u25 => (if (x2 : Int32) = 0 then bX7_doAttack_167 u25 x6 1 v24 x3 a1 else bX7_doAttack_167 u25 x6 ((-1)) v24 x3 a1)))))) else none)))
set_option maxRecDepth 100000 in
set_option maxHeartbeats 4000000 in
theorem pX7_doAttack_121 {r : Int32} {u' : Mm} (u : Mm) (a1 : Nat) (x2 : Int32) (x3 : Int32) (x6 : Int32) (s0 : Int32) (h : bX7_doAttack_121 u a1 x2 x3 x6 s0 = some (r, u')) : Eg MX7_doAttack 4 0 0 (some (.int r), u') 121 [(1, .ref a1), (2, .int x2), (3, .int x3), (6, .int x6)] [.int s0] u := by
  unfold bX7_doAttack_121 at h
  refine E_istore (l' := [(7, .int s0), (1, .ref a1), (2, .int x2), (3, .int x3), (6, .int x6)]) dX7_doAttack_121 (Nat.le_of_ble_eq_true rfl) rfl ?_
  refine E_aload_n dX7_doAttack_123 rfl rfl ?_
  refine E_iload dX7_doAttack_124 rfl ?_
  refine E_iload_n dX7_doAttack_126 rfl rfl ?_
  refine F_Vi h (fun a m e => tX1_menAt e) dX7_doAttack_127 hm_X1_menAt hv_X1_menAt ln_X7_75 rfl rfl (Nat.le_of_ble_eq_true rfl) (Nat.le_of_ble_eq_true rfl) (kc' := 0) (ks' := 0) rfl rfl (fun v21 u22 h => ?_)
  refine E_istore (l' := [(8, .int v21), (7, .int s0), (1, .ref a1), (2, .int x2), (3, .int x3), (6, .int x6)]) dX7_doAttack_130 (Nat.le_of_ble_eq_true rfl) rfl ?_
  refine E_aload_n dX7_doAttack_132 rfl rfl ?_
  refine E_iload dX7_doAttack_133 rfl ?_
  refine E_iload_n dX7_doAttack_135 rfl rfl ?_
  refine E_iload dX7_doAttack_136 rfl ?_
  refine E_iload dX7_doAttack_138 rfl ?_
  refine E_iconst (v := 2) dX7_doAttack_140 (by decide) ?_
  refine E_idiv h dX7_doAttack_141 (fun h => ?_)
  refine E_isub dX7_doAttack_142 ?_
  refine F_Vv h (fun m e => tX1_setMen e) dX7_doAttack_143 hm_X1_setMen hv_X1_setMen ln_X7_100 rfl rfl (Nat.le_of_ble_eq_true rfl) (Nat.le_of_ble_eq_true rfl) (kc' := 0) (ks' := 0) rfl rfl (fun u23 h => ?_)
  refine E_iload dX7_doAttack_146 rfl ?_
  refine E_if_eq (tgt := 171) h dX7_doAttack_148 (by decide) (fun h => ?_) (fun h => ?_)
  · refine Eg.pick [5] rfl ?_
    exact pX7_doAttack_171 _ _ h
  · refine E_aload_n dX7_doAttack_151 rfl rfl ?_
    refine E_iload_n dX7_doAttack_152 rfl rfl ?_
    refine E_aload_n dX7_doAttack_153 rfl rfl ?_
    refine E_iload_n dX7_doAttack_154 rfl rfl ?_
    refine F_Vi h (fun a m e => tX1_lineAt e) dX7_doAttack_155 hm_X1_lineAt hv_X1_lineAt ln_X7_104 rfl rfl (Nat.le_of_ble_eq_true rfl) (Nat.le_of_ble_eq_true rfl) (kc' := 0) (ks' := 0) rfl rfl (fun v24 u25 h => ?_)
    refine E_iload_n dX7_doAttack_158 rfl rfl ?_
    refine E_if_ne (tgt := 166) h dX7_doAttack_159 (by decide) (fun h => ?_) (fun h => ?_)
    · refine E_iconst (v := (-1)) dX7_doAttack_166 (by decide) ?_
      refine Eg.pick [5] rfl ?_
      exact pX7_doAttack_167 _ _ _ _ _ _ h
    · refine E_iconst (v := 1) dX7_doAttack_162 (by decide) ?_
      refine E_goto (tgt := 167) dX7_doAttack_163 (by decide) ?_
      refine Eg.pick [5] rfl ?_
      exact pX7_doAttack_167 _ _ _ _ _ _ h
def bX7_doAttack_107 (u : Mm) (a1 : Nat) (x2 : Int32) (x3 : Int32) (x5 : Int32) (s0 : Int32) : Option (Int32 × Mm) := (if (x5 : Int32) = 0 then bX7_doAttack_121 u a1 x2 x3 s0 x2 else bX7_doAttack_121 u a1 x2 x3 s0 ((1 : Int32) - x2))
set_option maxRecDepth 100000 in
set_option maxHeartbeats 4000000 in
theorem pX7_doAttack_107 {r : Int32} {u' : Mm} (u : Mm) (a1 : Nat) (x2 : Int32) (x3 : Int32) (x5 : Int32) (s0 : Int32) (h : bX7_doAttack_107 u a1 x2 x3 x5 s0 = some (r, u')) : Eg MX7_doAttack 4 0 0 (some (.int r), u') 107 [(1, .ref a1), (2, .int x2), (3, .int x3), (5, .int x5)] [.int s0] u := by
  unfold bX7_doAttack_107 at h
  refine E_istore (l' := [(6, .int s0), (1, .ref a1), (2, .int x2), (3, .int x3), (5, .int x5)]) dX7_doAttack_107 (Nat.le_of_ble_eq_true rfl) rfl ?_
  refine E_iload dX7_doAttack_109 rfl ?_
  refine E_if_eq (tgt := 120) h dX7_doAttack_111 (by decide) (fun h => ?_) (fun h => ?_)
  · refine E_iload_n dX7_doAttack_120 rfl rfl ?_
    refine Eg.pick [1, 2, 3, 0] rfl ?_
    exact pX7_doAttack_121 _ _ _ _ _ _ h
  · refine E_iconst (v := 1) dX7_doAttack_114 (by decide) ?_
    refine E_iload_n dX7_doAttack_115 rfl rfl ?_
    refine E_isub dX7_doAttack_116 ?_
    refine E_goto (tgt := 121) dX7_doAttack_117 (by decide) ?_
    refine Eg.pick [1, 2, 3, 0] rfl ?_
    exact pX7_doAttack_121 _ _ _ _ _ _ h
def bX7_doAttack_106 (u : Mm) (a1 : Nat) (x2 : Int32) (x3 : Int32) (x5 : Int32) : Option (Int32 × Mm) := bX7_doAttack_107 u a1 x2 x3 x5 0
set_option maxRecDepth 100000 in
set_option maxHeartbeats 4000000 in
theorem pX7_doAttack_106 {r : Int32} {u' : Mm} (u : Mm) (a1 : Nat) (x2 : Int32) (x3 : Int32) (x5 : Int32) (h : bX7_doAttack_106 u a1 x2 x3 x5 = some (r, u')) : Eg MX7_doAttack 4 0 0 (some (.int r), u') 106 [(1, .ref a1), (2, .int x2), (3, .int x3), (5, .int x5)] [] u := by
  unfold bX7_doAttack_106 at h
  refine E_iconst (v := 0) dX7_doAttack_106 (by decide) ?_
  refine Eg.pick [0, 1, 2, 3] rfl ?_
  exact pX7_doAttack_107 _ _ _ _ _ _ h
def fX7_doAttack (u : Mm) (a0 : Nat) (a1 : Nat) (x2 : Int32) (x3 : Int32) : Option (Int32 × Mm) := oB (fX8_isSide u x2) (fun v1 u2 => (if (v1 : Int32) = 0 then some ((-1), u2) else oB (fX8_isColumn u2 x3) (fun v3 u4 => (if (v3 : Int32) = 0 then some ((-1), u4) else oR u4 a1 1 (oB (fX1_menAt u4 a1 x2 x3) (fun v5 u6 => (if (v5 : Int32) = 0 then some ((-3), u6) else oR u6 a0 7 (oB (fX7_isBarred u6 a0 a1 x2 x3) (fun v7 u8 => (if (v7 : Int32) = 0 then oK u8 a0 7 2 (oNn (mR u8 a0 0) (fun e9 => oR u8 e9 0 (oB (fX0_lawInForce u8 e9) (fun g10 u11 => oR u11 a0 7 (oB (fX7_costOf u11 a0 g10 a1 x2 x3) (fun v12 u13 => oR u13 a1 1 (oB (fX1_supplyOf u13 a1 x2) (fun v14 u15 => (if (v12 : Int32) ≤ v14 then oR u15 a1 1 (oB (fX1_supplyOf u15 a1 x2) (fun v16 u17 => oR u17 a1 1 (oB (fX1_setSupply u17 a1 x2 (v16 - v12)) (fun _ u18 => oR u18 a1 1 (oB (fX1_isStronger u18 a1 x2 x3) (fun v19 u20 => (if (v19 : Int32) = 0 then bX7_doAttack_106 u20 a1 x2 x3 v19 else oR u20 a1 1 (oB (fX1_canGoOn u20 a1 x2 x3) (fun v27 u28 => (if (v27 : Int32) = 0 then bX7_doAttack_106 u28 a1 x2 x3 v19 else bX7_doAttack_107 u28 a1 x2 x3 v19 1)))))))))) else some ((-3), u15)))))))))) else some ((-3), u8)))))))))))
set_option maxRecDepth 100000 in
set_option maxHeartbeats 4000000 in
theorem tX7_doAttack {u : Mm} {a0 : Nat} {a1 : Nat} {x2 : Int32} {x3 : Int32} {r : Int32} {u' : Mm} (h : fX7_doAttack u a0 a1 x2 x3 = some (r, u')) : Ev 4 MX7_doAttack 0 0 [.ref a0, .ref a1, .int x2, .int x3] u (some (.int r), u') := by
  refine Ev.of (by decide +kernel) (Nat.le_of_ble_eq_true rfl) (show Eg MX7_doAttack 4 0 0 (some (.int r), u') 0 [(0, .ref a0), (1, .ref a1), (2, .int x2), (3, .int x3)] [] u from ?_)
  unfold fX7_doAttack at h
  refine E_iload_n dX7_doAttack_0 rfl rfl ?_
  refine F_Si h (fun a m e => tX8_isSide e) dX7_doAttack_1 hm_X8_isSide hs_X8_isSide ln_X7_68 rfl rfl (Nat.le_of_ble_eq_true rfl) (Nat.le_of_ble_eq_true rfl) (kc' := 0) (ks' := 0) rfl rfl (fun v1 u2 h => ?_)
  refine E_if_eq (tgt := 14) h dX7_doAttack_4 (by decide) (fun h => ?_) (fun h => ?_)
  · refine E_iconst (v := (-1)) dX7_doAttack_14 (by decide) ?_
    exact E_iret h dX7_doAttack_15 rfl
  · refine E_iload_n dX7_doAttack_7 rfl rfl ?_
    refine F_Si h (fun a m e => tX8_isColumn e) dX7_doAttack_8 hm_X8_isColumn hs_X8_isColumn ln_X7_72 rfl rfl (Nat.le_of_ble_eq_true rfl) (Nat.le_of_ble_eq_true rfl) (kc' := 0) (ks' := 0) rfl rfl (fun v3 u4 h => ?_)
    refine E_if_ne (tgt := 16) h dX7_doAttack_11 (by decide) (fun h => ?_) (fun h => ?_)
    · refine E_aload_n dX7_doAttack_16 rfl rfl ?_
      refine E_iload_n dX7_doAttack_17 rfl rfl ?_
      refine E_iload_n dX7_doAttack_18 rfl rfl ?_
      refine F_Vi h (fun a m e => tX1_menAt e) dX7_doAttack_19 hm_X1_menAt hv_X1_menAt ln_X7_75 rfl rfl (Nat.le_of_ble_eq_true rfl) (Nat.le_of_ble_eq_true rfl) (kc' := 0) (ks' := 0) rfl rfl (fun v5 u6 h => ?_)
      refine E_if_eq (tgt := 35) h dX7_doAttack_22 (by decide) (fun h => ?_) (fun h => ?_)
      · refine E_bipush (v := (-3)) dX7_doAttack_35 (by decide) ?_
        exact E_iret h dX7_doAttack_37 rfl
      · refine E_aload_n dX7_doAttack_25 rfl rfl ?_
        refine E_aload_n dX7_doAttack_26 rfl rfl ?_
        refine E_iload_n dX7_doAttack_27 rfl rfl ?_
        refine E_iload_n dX7_doAttack_28 rfl rfl ?_
        refine F_Vi h (fun a m e => tX7_isBarred e) dX7_doAttack_29 hm_X7_isBarred hv_X7_isBarred ln_X7_78 rfl rfl (Nat.le_of_ble_eq_true rfl) (Nat.le_of_ble_eq_true rfl) (kc' := 0) (ks' := 0) rfl rfl (fun v7 u8 h => ?_)
        refine E_if_eq (tgt := 38) h dX7_doAttack_32 (by decide) (fun h => ?_) (fun h => ?_)
        · refine E_aload_n dX7_doAttack_38 rfl rfl ?_
          refine E_aload_n dX7_doAttack_39 rfl rfl ?_
          refine E_getA h dX7_doAttack_40 cf7 lk_X7_18 (by decide) (fun _ _ _ => rfl) (fun e9 h => ?_)
          refine F_Vq h (fun a m e => tX0_lawInForce e) dX7_doAttack_43 hm_X0_lawInForce hv_X0_lawInForce ln_X7_48 rfl rfl (Nat.le_of_ble_eq_true rfl) (Nat.le_of_ble_eq_true rfl) (kc' := 0) (ks' := 0) rfl rfl (fun g10 u11 h => ?_)
          refine E_aload_n dX7_doAttack_46 rfl rfl ?_
          refine E_iload_n dX7_doAttack_47 rfl rfl ?_
          refine E_iload_n dX7_doAttack_48 rfl rfl ?_
          refine F_Vi h (fun a m e => tX7_costOf e) dX7_doAttack_49 hm_X7_costOf hv_X7_costOf ln_X7_82 rfl rfl (Nat.le_of_ble_eq_true rfl) (Nat.le_of_ble_eq_true rfl) (kc' := 0) (ks' := 0) rfl rfl (fun v12 u13 h => ?_)
          refine E_istore (l' := [(4, .int v12), (0, .ref a0), (1, .ref a1), (2, .int x2), (3, .int x3)]) dX7_doAttack_52 (Nat.le_of_ble_eq_true rfl) rfl ?_
          refine E_aload_n dX7_doAttack_54 rfl rfl ?_
          refine E_iload_n dX7_doAttack_55 rfl rfl ?_
          refine F_Vi h (fun a m e => tX1_supplyOf e) dX7_doAttack_56 hm_X1_supplyOf hv_X1_supplyOf ln_X7_86 rfl rfl (Nat.le_of_ble_eq_true rfl) (Nat.le_of_ble_eq_true rfl) (kc' := 0) (ks' := 0) rfl rfl (fun v14 u15 h => ?_)
          refine E_iload dX7_doAttack_59 rfl ?_
          refine E_ic_ge (tgt := 67) h dX7_doAttack_61 (by decide) (fun h => ?_) (fun h => ?_)
          · refine E_aload_n dX7_doAttack_67 rfl rfl ?_
            refine E_iload_n dX7_doAttack_68 rfl rfl ?_
            refine E_aload_n dX7_doAttack_69 rfl rfl ?_
            refine E_iload_n dX7_doAttack_70 rfl rfl ?_
            refine F_Vi h (fun a m e => tX1_supplyOf e) dX7_doAttack_71 hm_X1_supplyOf hv_X1_supplyOf ln_X7_86 rfl rfl (Nat.le_of_ble_eq_true rfl) (Nat.le_of_ble_eq_true rfl) (kc' := 0) (ks' := 0) rfl rfl (fun v16 u17 h => ?_)
            refine E_iload dX7_doAttack_74 rfl ?_
            refine E_isub dX7_doAttack_76 ?_
            refine F_Vv h (fun m e => tX1_setSupply e) dX7_doAttack_77 hm_X1_setSupply hv_X1_setSupply ln_X7_89 rfl rfl (Nat.le_of_ble_eq_true rfl) (Nat.le_of_ble_eq_true rfl) (kc' := 0) (ks' := 0) rfl rfl (fun u18 h => ?_)
            refine E_aload_n dX7_doAttack_80 rfl rfl ?_
            refine E_iload_n dX7_doAttack_81 rfl rfl ?_
            refine E_iload_n dX7_doAttack_82 rfl rfl ?_
            refine F_Vi h (fun a m e => tX1_isStronger e) dX7_doAttack_83 hm_X1_isStronger hv_X1_isStronger ln_X7_93 rfl rfl (Nat.le_of_ble_eq_true rfl) (Nat.le_of_ble_eq_true rfl) (kc' := 0) (ks' := 0) rfl rfl (fun v19 u20 h => ?_)
            refine E_istore (l' := [(5, .int v19), (4, .int v12), (0, .ref a0), (1, .ref a1), (2, .int x2), (3, .int x3)]) dX7_doAttack_86 (Nat.le_of_ble_eq_true rfl) rfl ?_
            refine E_iload dX7_doAttack_88 rfl ?_
            refine E_if_eq (tgt := 106) h dX7_doAttack_90 (by decide) (fun h => ?_) (fun h => ?_)
            · refine Eg.pick [3, 4, 5, 0] rfl ?_
              exact pX7_doAttack_106 _ _ _ _ _ h
            · refine E_aload_n dX7_doAttack_93 rfl rfl ?_
              refine E_iload_n dX7_doAttack_94 rfl rfl ?_
              refine E_iload_n dX7_doAttack_95 rfl rfl ?_
              refine F_Vi h (fun a m e => tX1_canGoOn e) dX7_doAttack_96 hm_X1_canGoOn hv_X1_canGoOn ln_X7_97 rfl rfl (Nat.le_of_ble_eq_true rfl) (Nat.le_of_ble_eq_true rfl) (kc' := 0) (ks' := 0) rfl rfl (fun v27 u28 h => ?_)
              refine E_if_eq (tgt := 106) h dX7_doAttack_99 (by decide) (fun h => ?_) (fun h => ?_)
              · refine Eg.pick [3, 4, 5, 0] rfl ?_
                exact pX7_doAttack_106 _ _ _ _ _ h
              · refine E_iconst (v := 1) dX7_doAttack_102 (by decide) ?_
                refine E_goto (tgt := 107) dX7_doAttack_103 (by decide) ?_
                refine Eg.pick [3, 4, 5, 0] rfl ?_
                exact pX7_doAttack_107 _ _ _ _ _ _ h
          · refine E_bipush (v := (-3)) dX7_doAttack_64 (by decide) ?_
            exact E_iret h dX7_doAttack_66 rfl
        · refine E_bipush (v := (-3)) dX7_doAttack_35 (by decide) ?_
          exact E_iret h dX7_doAttack_37 rfl
    · refine E_iconst (v := (-1)) dX7_doAttack_14 (by decide) ?_
      exact E_iret h dX7_doAttack_15 rfl
def bX7_doShift_14 (u : Mm) (a1 : Nat) (x2 : Int32) (x3 : Int32) (x4 : Int32) (s0 : Int32) : Option (Int32 × Mm) := oB (fX8_isSide u x2) (fun v1 u2 => (if (v1 : Int32) = 0 then some ((-1), u2) else oB (fX8_isColumn u2 x3) (fun v3 u4 => (if (v3 : Int32) = 0 then some ((-1), u4) else oB (fX8_isColumn u4 s0) (fun v5 u6 => (if (v5 : Int32) = 0 then some ((-1), u6) else (if (x4 : Int32) = 0 then some ((-1), u6) else oB (fX8_within u6 x4 ((-99)) 99) (fun v7 u8 => (if (v7 : Int32) = 0 then some ((-1), u8) else oR u8 a1 1 (oB (fX1_menAt u8 a1 x2 x3) (fun v9 u10 => oB (fJ9_abs_0f7a4 u10 x4) (fun v11 u12 => oI (v9 - v11) (fun v13 => oR u12 a1 1 (oB (fX1_menAt u12 a1 x2 s0) (fun v14 u15 => oB (fJ9_abs_0f7a4 u15 x4) (fun v16 u17 => oI (v14 + v16) (fun v18 => (if (v13 : Int32) < 0 then some ((-3), u17) else (if (v18 : Int32) ≤ 99 then oR u17 a1 1 (oB (fX1_setMen u17 a1 x2 x3 v13) (fun _ u19 => oR u19 a1 1 (oB (fX1_setMen u19 a1 x2 s0 v18) (fun _ u20 => some (v13, u20))))) else some ((-3), u17))))))))))))))))))))
set_option maxRecDepth 100000 in
set_option maxHeartbeats 4000000 in
theorem pX7_doShift_14 {r : Int32} {u' : Mm} (u : Mm) (a1 : Nat) (x2 : Int32) (x3 : Int32) (x4 : Int32) (s0 : Int32) (h : bX7_doShift_14 u a1 x2 x3 x4 s0 = some (r, u')) : Eg MX7_doShift 2 0 0 (some (.int r), u') 14 [(1, .ref a1), (2, .int x2), (3, .int x3), (4, .int x4)] [.int s0] u := by
  unfold bX7_doShift_14 at h
  refine E_istore (l' := [(5, .int s0), (1, .ref a1), (2, .int x2), (3, .int x3), (4, .int x4)]) dX7_doShift_14 (Nat.le_of_ble_eq_true rfl) rfl ?_
  refine E_iload_n dX7_doShift_16 rfl rfl ?_
  refine F_Si h (fun a m e => tX8_isSide e) dX7_doShift_17 hm_X8_isSide hs_X8_isSide ln_X7_68 rfl rfl (Nat.le_of_ble_eq_true rfl) (Nat.le_of_ble_eq_true rfl) (kc' := 0) (ks' := 0) rfl rfl (fun v1 u2 h => ?_)
  refine E_if_eq (tgt := 55) h dX7_doShift_20 (by decide) (fun h => ?_) (fun h => ?_)
  · refine E_iconst (v := (-1)) dX7_doShift_55 (by decide) ?_
    exact E_iret h dX7_doShift_56 rfl
  · refine E_iload_n dX7_doShift_23 rfl rfl ?_
    refine F_Si h (fun a m e => tX8_isColumn e) dX7_doShift_24 hm_X8_isColumn hs_X8_isColumn ln_X7_72 rfl rfl (Nat.le_of_ble_eq_true rfl) (Nat.le_of_ble_eq_true rfl) (kc' := 0) (ks' := 0) rfl rfl (fun v3 u4 h => ?_)
    refine E_if_eq (tgt := 55) h dX7_doShift_27 (by decide) (fun h => ?_) (fun h => ?_)
    · refine E_iconst (v := (-1)) dX7_doShift_55 (by decide) ?_
      exact E_iret h dX7_doShift_56 rfl
    · refine E_iload dX7_doShift_30 rfl ?_
      refine F_Si h (fun a m e => tX8_isColumn e) dX7_doShift_32 hm_X8_isColumn hs_X8_isColumn ln_X7_72 rfl rfl (Nat.le_of_ble_eq_true rfl) (Nat.le_of_ble_eq_true rfl) (kc' := 0) (ks' := 0) rfl rfl (fun v5 u6 h => ?_)
      refine E_if_eq (tgt := 55) h dX7_doShift_35 (by decide) (fun h => ?_) (fun h => ?_)
      · refine E_iconst (v := (-1)) dX7_doShift_55 (by decide) ?_
        exact E_iret h dX7_doShift_56 rfl
      · refine E_iload dX7_doShift_38 rfl ?_
        refine E_if_eq (tgt := 55) h dX7_doShift_40 (by decide) (fun h => ?_) (fun h => ?_)
        · refine E_iconst (v := (-1)) dX7_doShift_55 (by decide) ?_
          exact E_iret h dX7_doShift_56 rfl
        · refine E_iload dX7_doShift_43 rfl ?_
          refine E_bipush (v := (-99)) dX7_doShift_45 (by decide) ?_
          refine E_bipush (v := 99) dX7_doShift_47 (by decide) ?_
          refine F_Si h (fun a m e => tX8_within e) dX7_doShift_49 hm_X8_within hs_X8_within ln_X7_110 rfl rfl (Nat.le_of_ble_eq_true rfl) (Nat.le_of_ble_eq_true rfl) (kc' := 0) (ks' := 0) rfl rfl (fun v7 u8 h => ?_)
          refine E_if_ne (tgt := 57) h dX7_doShift_52 (by decide) (fun h => ?_) (fun h => ?_)
          · refine E_aload_n dX7_doShift_57 rfl rfl ?_
            refine E_iload_n dX7_doShift_58 rfl rfl ?_
            refine E_iload_n dX7_doShift_59 rfl rfl ?_
            refine F_Vi h (fun a m e => tX1_menAt e) dX7_doShift_60 hm_X1_menAt hv_X1_menAt ln_X7_75 rfl rfl (Nat.le_of_ble_eq_true rfl) (Nat.le_of_ble_eq_true rfl) (kc' := 0) (ks' := 0) rfl rfl (fun v9 u10 h => ?_)
            refine E_iload dX7_doShift_63 rfl ?_
            refine F_Si h (fun a m e => tJ9_abs_0f7a4 e) dX7_doShift_65 hm_J9_abs_0f7a4 hs_J9_abs_0f7a4 ln_X7_114 rfl rfl (Nat.le_of_ble_eq_true rfl) (Nat.le_of_ble_eq_true rfl) (kc' := 0) (ks' := 0) rfl rfl (fun v11 u12 h => ?_)
            refine E_isub dX7_doShift_68 ?_
            refine E_oI h (fun v13 h => ?_)
            refine E_istore (l' := [(6, .int v13), (5, .int s0), (1, .ref a1), (2, .int x2), (3, .int x3), (4, .int x4)]) dX7_doShift_69 (Nat.le_of_ble_eq_true rfl) rfl ?_
            refine E_aload_n dX7_doShift_71 rfl rfl ?_
            refine E_iload_n dX7_doShift_72 rfl rfl ?_
            refine E_iload dX7_doShift_73 rfl ?_
            refine F_Vi h (fun a m e => tX1_menAt e) dX7_doShift_75 hm_X1_menAt hv_X1_menAt ln_X7_75 rfl rfl (Nat.le_of_ble_eq_true rfl) (Nat.le_of_ble_eq_true rfl) (kc' := 0) (ks' := 0) rfl rfl (fun v14 u15 h => ?_)
            refine E_iload dX7_doShift_78 rfl ?_
            refine F_Si h (fun a m e => tJ9_abs_0f7a4 e) dX7_doShift_80 hm_J9_abs_0f7a4 hs_J9_abs_0f7a4 ln_X7_114 rfl rfl (Nat.le_of_ble_eq_true rfl) (Nat.le_of_ble_eq_true rfl) (kc' := 0) (ks' := 0) rfl rfl (fun v16 u17 h => ?_)
            refine E_iadd dX7_doShift_83 ?_
            refine E_oI h (fun v18 h => ?_)
            refine E_istore (l' := [(7, .int v18), (6, .int v13), (5, .int s0), (1, .ref a1), (2, .int x2), (3, .int x3), (4, .int x4)]) dX7_doShift_84 (Nat.le_of_ble_eq_true rfl) rfl ?_
            refine E_iload dX7_doShift_86 rfl ?_
            refine E_if_lt (tgt := 98) h dX7_doShift_88 (by decide) (fun h => ?_) (fun h => ?_)
            · refine E_bipush (v := (-3)) dX7_doShift_98 (by decide) ?_
              exact E_iret h dX7_doShift_100 rfl
            · refine E_iload dX7_doShift_91 rfl ?_
              refine E_bipush (v := 99) dX7_doShift_93 (by decide) ?_
              refine E_ic_le (tgt := 101) h dX7_doShift_95 (by decide) (fun h => ?_) (fun h => ?_)
              · refine E_aload_n dX7_doShift_101 rfl rfl ?_
                refine E_iload_n dX7_doShift_102 rfl rfl ?_
                refine E_iload_n dX7_doShift_103 rfl rfl ?_
                refine E_iload dX7_doShift_104 rfl ?_
                refine F_Vv h (fun m e => tX1_setMen e) dX7_doShift_106 hm_X1_setMen hv_X1_setMen ln_X7_100 rfl rfl (Nat.le_of_ble_eq_true rfl) (Nat.le_of_ble_eq_true rfl) (kc' := 0) (ks' := 0) rfl rfl (fun u19 h => ?_)
                refine E_aload_n dX7_doShift_109 rfl rfl ?_
                refine E_iload_n dX7_doShift_110 rfl rfl ?_
                refine E_iload dX7_doShift_111 rfl ?_
                refine E_iload dX7_doShift_113 rfl ?_
                refine F_Vv h (fun m e => tX1_setMen e) dX7_doShift_115 hm_X1_setMen hv_X1_setMen ln_X7_100 rfl rfl (Nat.le_of_ble_eq_true rfl) (Nat.le_of_ble_eq_true rfl) (kc' := 0) (ks' := 0) rfl rfl (fun u20 h => ?_)
                refine E_iload dX7_doShift_118 rfl ?_
                exact E_iret h dX7_doShift_120 rfl
              · refine E_bipush (v := (-3)) dX7_doShift_98 (by decide) ?_
                exact E_iret h dX7_doShift_100 rfl
          · refine E_iconst (v := (-1)) dX7_doShift_55 (by decide) ?_
            exact E_iret h dX7_doShift_56 rfl
def fX7_doShift (u : Mm) (a0 : Nat) (a1 : Nat) (x2 : Int32) (x3 : Int32) (x4 : Int32) : Option (Int32 × Mm) := (if (x4 : Int32) ≤ 0 then bX7_doShift_14 u a1 x2 x3 x4 (x3 - 1) else bX7_doShift_14 u a1 x2 x3 x4 (x3 + 1))
set_option maxRecDepth 100000 in
set_option maxHeartbeats 4000000 in
theorem tX7_doShift {u : Mm} {a0 : Nat} {a1 : Nat} {x2 : Int32} {x3 : Int32} {x4 : Int32} {r : Int32} {u' : Mm} (h : fX7_doShift u a0 a1 x2 x3 x4 = some (r, u')) : Ev 2 MX7_doShift 0 0 [.ref a0, .ref a1, .int x2, .int x3, .int x4] u (some (.int r), u') := by
  refine Ev.of (by decide +kernel) (Nat.le_of_ble_eq_true rfl) (show Eg MX7_doShift 2 0 0 (some (.int r), u') 0 [(0, .ref a0), (1, .ref a1), (2, .int x2), (3, .int x3), (4, .int x4)] [] u from ?_)
  unfold fX7_doShift at h
  refine E_iload dX7_doShift_0 rfl ?_
  refine E_if_le (tgt := 11) h dX7_doShift_2 (by decide) (fun h => ?_) (fun h => ?_)
  · refine E_iload_n dX7_doShift_11 rfl rfl ?_
    refine E_iconst (v := 1) dX7_doShift_12 (by decide) ?_
    refine E_isub dX7_doShift_13 ?_
    refine Eg.pick [1, 2, 3, 4] rfl ?_
    exact pX7_doShift_14 _ _ _ _ _ _ h
  · refine E_iload_n dX7_doShift_5 rfl rfl ?_
    refine E_iconst (v := 1) dX7_doShift_6 (by decide) ?_
    refine E_iadd dX7_doShift_7 ?_
    refine E_goto (tgt := 14) dX7_doShift_8 (by decide) ?_
    refine Eg.pick [1, 2, 3, 4] rfl ?_
    exact pX7_doShift_14 _ _ _ _ _ _ h
def bX7_doShow_25 (k25 : Mm → Nat → Nat → Int32 → Int32 → Int32 → Option (Int32 × Mm)) (u : Mm) (a0 : Nat) (a1 : Nat) (x4 : Int32) (x5 : Int32) (x6 : Int32) : Option (Int32 × Mm) := (if (16 : Int32) ≤ x4 then some (x4, u) else oB (fX8_isSign u x5) (fun v5 u6 => (if (v5 : Int32) = 0 then some (x4, u6) else oR u6 a1 1 (oB (fX1_temperOf u6 a1 x6) (fun v7 u8 => oR u8 a0 7 (oB (fX7_readingOf u8 a0 a1 x5 x6) (fun v9 u10 => oR u10 a1 1 (oB (fX1_setTemper u10 a1 x6 (v7 + v9)) (fun _ u11 => oK u11 a0 7 2 (oNn (mR u11 a0 0) (fun e12 => oK u11 e12 0 16 (oNn (mR u11 e12 2) (fun e13 => oB (fX8_pair u11 x5 x6) (fun v14 u15 => oA u15 e13 10 v14 (oI (mI u15 e13 (Int32.toNatClampNeg v14)) (fun v16 => oI ((1 : Int32) - x6) (fun v17 => k25 u15 a0 a1 (x4 + 1) v16 v17)))))))))))))))))
set_option maxRecDepth 100000 in
set_option maxHeartbeats 4000000 in
theorem pX7_doShow_25 {r : Int32} {u' : Mm} {k25 : Mm → Nat → Nat → Int32 → Int32 → Int32 → Option (Int32 × Mm)} (hk25 : ∀ (u : Mm) (a0 : Nat) (a1 : Nat) (x4 : Int32) (x5 : Int32) (x6 : Int32), k25 u a0 a1 x4 x5 x6 = some (r, u') → Eg MX7_doShow 4 0 0 (some (.int r), u') 25 [(0, .ref a0), (1, .ref a1), (4, .int x4), (5, .int x5), (6, .int x6)] [] u) (u : Mm) (a0 : Nat) (a1 : Nat) (x4 : Int32) (x5 : Int32) (x6 : Int32) (h : bX7_doShow_25 k25 u a0 a1 x4 x5 x6 = some (r, u')) : Eg MX7_doShow 4 0 0 (some (.int r), u') 25 [(0, .ref a0), (1, .ref a1), (4, .int x4), (5, .int x5), (6, .int x6)] [] u := by
  unfold bX7_doShow_25 at h
  refine E_iload dX7_doShow_25 rfl ?_
  refine E_bipush (v := 16) dX7_doShow_27 (by decide) ?_
  refine E_ic_ge (tgt := 91) h dX7_doShow_29 (by decide) (fun h => ?_) (fun h => ?_)
  · refine E_iload dX7_doShow_91 rfl ?_
    exact E_iret h dX7_doShow_93 rfl
  · refine E_iload dX7_doShow_32 rfl ?_
    refine F_Si h (fun a m e => tX8_isSign e) dX7_doShow_34 hm_X8_isSign hs_X8_isSign ln_X7_117 rfl rfl (Nat.le_of_ble_eq_true rfl) (Nat.le_of_ble_eq_true rfl) (kc' := 0) (ks' := 0) rfl rfl (fun v5 u6 h => ?_)
    refine E_if_eq (tgt := 91) h dX7_doShow_37 (by decide) (fun h => ?_) (fun h => ?_)
    · refine E_iload dX7_doShow_91 rfl ?_
      exact E_iret h dX7_doShow_93 rfl
    · refine E_aload_n dX7_doShow_40 rfl rfl ?_
      refine E_iload dX7_doShow_41 rfl ?_
      refine E_aload_n dX7_doShow_43 rfl rfl ?_
      refine E_iload dX7_doShow_44 rfl ?_
      refine F_Vi h (fun a m e => tX1_temperOf e) dX7_doShow_46 hm_X1_temperOf hv_X1_temperOf ln_X7_120 rfl rfl (Nat.le_of_ble_eq_true rfl) (Nat.le_of_ble_eq_true rfl) (kc' := 0) (ks' := 0) rfl rfl (fun v7 u8 h => ?_)
      refine E_aload_n dX7_doShow_49 rfl rfl ?_
      refine E_aload_n dX7_doShow_50 rfl rfl ?_
      refine E_iload dX7_doShow_51 rfl ?_
      refine E_iload dX7_doShow_53 rfl ?_
      refine F_Vi h (fun a m e => tX7_readingOf e) dX7_doShow_55 hm_X7_readingOf hv_X7_readingOf ln_X7_123 rfl rfl (Nat.le_of_ble_eq_true rfl) (Nat.le_of_ble_eq_true rfl) (kc' := 0) (ks' := 0) rfl rfl (fun v9 u10 h => ?_)
      refine E_iadd dX7_doShow_58 ?_
      refine F_Vv h (fun m e => tX1_setTemper e) dX7_doShow_59 hm_X1_setTemper hv_X1_setTemper ln_X7_127 rfl rfl (Nat.le_of_ble_eq_true rfl) (Nat.le_of_ble_eq_true rfl) (kc' := 0) (ks' := 0) rfl rfl (fun u11 h => ?_)
      refine E_aload_n dX7_doShow_62 rfl rfl ?_
      refine E_getA h dX7_doShow_63 cf7 lk_X7_18 (by decide) (fun _ _ _ => rfl) (fun e12 h => ?_)
      refine E_getA h dX7_doShow_66 cf0 lk_X7_130 (by decide) (fun _ _ _ => rfl) (fun e13 h => ?_)
      refine E_iload dX7_doShow_69 rfl ?_
      refine E_iload dX7_doShow_71 rfl ?_
      refine F_Si h (fun a m e => tX8_pair e) dX7_doShow_73 hm_X8_pair hs_X8_pair ln_X7_65 rfl rfl (Nat.le_of_ble_eq_true rfl) (Nat.le_of_ble_eq_true rfl) (kc' := 0) (ks' := 0) rfl rfl (fun v14 u15 h => ?_)
      refine E_iald h dX7_doShow_76 (fun h => ?_)
      refine E_oI h (fun v16 h => ?_)
      refine E_istore (l' := [(5, .int v16), (0, .ref a0), (1, .ref a1), (4, .int x4), (6, .int x6)]) dX7_doShow_77 (Nat.le_of_ble_eq_true rfl) rfl ?_
      refine E_iconst (v := 1) dX7_doShow_79 (by decide) ?_
      refine E_iload dX7_doShow_80 rfl ?_
      refine E_isub dX7_doShow_82 ?_
      refine E_oI h (fun v17 h => ?_)
      refine E_istore (l' := [(6, .int v17), (5, .int v16), (0, .ref a0), (1, .ref a1), (4, .int x4)]) dX7_doShow_83 (Nat.le_of_ble_eq_true rfl) rfl ?_
      refine E_iinc (j := 4) (v := x4 + 1) (l' := [(4, .int (x4 + 1)), (6, .int v17), (5, .int v16), (0, .ref a0), (1, .ref a1)]) dX7_doShow_85 rfl (addI (by decide)) (Nat.le_of_ble_eq_true rfl) rfl ?_
      refine E_goto (tgt := 25) dX7_doShow_88 (by decide) ?_
      refine Eg.pick [3, 4, 0, 2, 1] rfl ?_
      exact hk25 _ _ _ _ _ _ h
def rX7_doShow_25 : Nat → Mm → Nat → Nat → Int32 → Int32 → Int32 → Option (Int32 × Mm)
  | 0, _, _, _, _, _, _ => none
  | n + 1, u, a0, a1, x4, x5, x6 => bX7_doShow_25 (rX7_doShow_25 n) u a0 a1 x4 x5 x6
theorem prX7_doShow_25 {r : Int32} {u' : Mm} : ∀ (n : Nat) (u : Mm) (a0 : Nat) (a1 : Nat) (x4 : Int32) (x5 : Int32) (x6 : Int32), rX7_doShow_25 n u a0 a1 x4 x5 x6 = some (r, u') → Eg MX7_doShow 4 0 0 (some (.int r), u') 25 [(0, .ref a0), (1, .ref a1), (4, .int x4), (5, .int x5), (6, .int x6)] [] u
  | 0, _, _, _, _, _, _, h => by cases h
  | n + 1, u, a0, a1, x4, x5, x6, h => pX7_doShow_25 (prX7_doShow_25 n) u a0 a1 x4 x5 x6 h
def fX7_doShow (u : Mm) (a0 : Nat) (a1 : Nat) (x2 : Int32) (x3 : Int32) : Option (Int32 × Mm) := oB (fX8_isSign u x2) (fun v1 u2 => (if (v1 : Int32) = 0 then some ((-1), u2) else oB (fX8_isSide u2 x3) (fun v3 u4 => (if (v3 : Int32) = 0 then some ((-1), u4) else rX7_doShow_25 hwF u4 a0 a1 0 x2 x3))))
set_option maxRecDepth 100000 in
set_option maxHeartbeats 4000000 in
theorem tX7_doShow {u : Mm} {a0 : Nat} {a1 : Nat} {x2 : Int32} {x3 : Int32} {r : Int32} {u' : Mm} (h : fX7_doShow u a0 a1 x2 x3 = some (r, u')) : Ev 4 MX7_doShow 0 0 [.ref a0, .ref a1, .int x2, .int x3] u (some (.int r), u') := by
  refine Ev.of (by decide +kernel) (Nat.le_of_ble_eq_true rfl) (show Eg MX7_doShow 4 0 0 (some (.int r), u') 0 [(0, .ref a0), (1, .ref a1), (2, .int x2), (3, .int x3)] [] u from ?_)
  unfold fX7_doShow at h
  refine E_iload_n dX7_doShow_0 rfl rfl ?_
  refine F_Si h (fun a m e => tX8_isSign e) dX7_doShow_1 hm_X8_isSign hs_X8_isSign ln_X7_117 rfl rfl (Nat.le_of_ble_eq_true rfl) (Nat.le_of_ble_eq_true rfl) (kc' := 0) (ks' := 0) rfl rfl (fun v1 u2 h => ?_)
  refine E_if_eq (tgt := 14) h dX7_doShow_4 (by decide) (fun h => ?_) (fun h => ?_)
  · refine E_iconst (v := (-1)) dX7_doShow_14 (by decide) ?_
    exact E_iret h dX7_doShow_15 rfl
  · refine E_iload_n dX7_doShow_7 rfl rfl ?_
    refine F_Si h (fun a m e => tX8_isSide e) dX7_doShow_8 hm_X8_isSide hs_X8_isSide ln_X7_68 rfl rfl (Nat.le_of_ble_eq_true rfl) (Nat.le_of_ble_eq_true rfl) (kc' := 0) (ks' := 0) rfl rfl (fun v3 u4 h => ?_)
    refine E_if_ne (tgt := 16) h dX7_doShow_11 (by decide) (fun h => ?_) (fun h => ?_)
    · refine E_iconst (v := 0) dX7_doShow_16 (by decide) ?_
      refine E_istore (l' := [(4, .int 0), (0, .ref a0), (1, .ref a1), (2, .int x2), (3, .int x3)]) dX7_doShow_17 (Nat.le_of_ble_eq_true rfl) rfl ?_
      refine E_iload_n dX7_doShow_19 rfl rfl ?_
      refine E_istore (l' := [(5, .int x2), (4, .int 0), (0, .ref a0), (1, .ref a1), (2, .int x2), (3, .int x3)]) dX7_doShow_20 (Nat.le_of_ble_eq_true rfl) rfl ?_
      refine E_iload_n dX7_doShow_22 rfl rfl ?_
      refine E_istore (l' := [(6, .int x3), (5, .int x2), (4, .int 0), (0, .ref a0), (1, .ref a1), (2, .int x2), (3, .int x3)]) dX7_doShow_23 (Nat.le_of_ble_eq_true rfl) rfl ?_
      refine Eg.pick [3, 4, 2, 1, 0] rfl ?_
      exact prX7_doShow_25 _ _ _ _ _ _ _ h
    · refine E_iconst (v := (-1)) dX7_doShow_14 (by decide) ?_
      exact E_iret h dX7_doShow_15 rfl
