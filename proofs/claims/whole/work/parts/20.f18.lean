/-! ===== methods as functions, with their contracts (printed by program) ===== -/
def bX9_behindTest_66 (u : Mm) (a0 : Nat) (s0 : Int32) (s1 : Nat) : Option (Int32 × Mm) := oR u s1 9 (oB (fX9_emit u s1 s0 0) (fun _ u6 => oR u6 a0 9 (oB (fX9_next u6 a0) (fun _ u7 => some (0, u7)))))
set_option maxRecDepth 100000 in
set_option maxHeartbeats 4000000 in
theorem pX9_behindTest_66 {r : Int32} {u' : Mm} (u : Mm) (a0 : Nat) (s0 : Int32) (s1 : Nat) (h : bX9_behindTest_66 u a0 s0 s1 = some (r, u')) : Eg MX9_behindTest 3 0 0 (some (.int r), u') 66 [(0, .ref a0)] [.int s0, .ref s1] u := by
  unfold bX9_behindTest_66 at h
  refine E_iconst (v := 0) dX9_behindTest_66 (by decide) ?_
  refine F_Vv h (fun m e => tX9_emit e) dX9_behindTest_67 hm_X9_emit hv_X9_emit ln_X9_267 rfl rfl (Nat.le_of_ble_eq_true rfl) (Nat.le_of_ble_eq_true rfl) (kc' := 0) (ks' := 0) rfl rfl (fun u6 h => ?_)
  refine E_aload_n dX9_behindTest_70 rfl rfl ?_
  refine F_Vv h (fun m e => tX9_next e) dX9_behindTest_71 hm_X9_next hv_X9_next ln_X9_227 rfl rfl (Nat.le_of_ble_eq_true rfl) (Nat.le_of_ble_eq_true rfl) (kc' := 0) (ks' := 0) rfl rfl (fun u7 h => ?_)
  refine E_iconst (v := 0) dX9_behindTest_74 (by decide) ?_
  exact E_iret h dX9_behindTest_75 rfl
def bX9_behindTest_47 (u : Mm) (a0 : Nat) (x1 : Int32) (s0 : Int32) (s1 : Nat) : Option (Int32 × Mm) := oK u a0 9 54 (oI (mI u a0 23) (fun v4 => oR u s1 9 (oB (fX9_push u s1 s0 v4) (fun _ u5 => (if (x1 : Int32) = 0 then bX9_behindTest_66 u5 a0 30 a0 else bX9_behindTest_66 u5 a0 29 a0)))))
set_option maxRecDepth 100000 in
set_option maxHeartbeats 4000000 in
theorem pX9_behindTest_47 {r : Int32} {u' : Mm} (u : Mm) (a0 : Nat) (x1 : Int32) (s0 : Int32) (s1 : Nat) (h : bX9_behindTest_47 u a0 x1 s0 s1 = some (r, u')) : Eg MX9_behindTest 3 0 0 (some (.int r), u') 47 [(0, .ref a0), (1, .int x1)] [.int s0, .ref s1] u := by
  unfold bX9_behindTest_47 at h
  refine E_aload_n dX9_behindTest_47 rfl rfl ?_
  refine E_getI h dX9_behindTest_48 cf9 lk_X9_258 (by decide) (fun _ _ _ => rfl) (fun h => ?_)
  refine E_oI h (fun v4 h => ?_)
  refine F_Vv h (fun m e => tX9_push e) dX9_behindTest_51 hm_X9_push hv_X9_push ln_X9_284 rfl rfl (Nat.le_of_ble_eq_true rfl) (Nat.le_of_ble_eq_true rfl) (kc' := 0) (ks' := 0) rfl rfl (fun u5 h => ?_)
  refine E_aload_n dX9_behindTest_54 rfl rfl ?_
  refine E_iload_n dX9_behindTest_55 rfl rfl ?_
  refine E_if_eq (tgt := 64) h dX9_behindTest_56 (by decide) (fun h => ?_) (fun h => ?_)
  · refine E_bipush (v := 30) dX9_behindTest_64 (by decide) ?_
    refine Eg.pick [0] rfl ?_
    exact pX9_behindTest_66 _ _ _ _ h
  · refine E_bipush (v := 29) dX9_behindTest_59 (by decide) ?_
    refine E_goto (tgt := 66) dX9_behindTest_61 (by decide) ?_
    refine Eg.pick [0] rfl ?_
    exact pX9_behindTest_66 _ _ _ _ h
def bX9_behindTest_32 (u : Mm) (a0 : Nat) (x1 : Int32) (s0 : Int32) (s1 : Nat) : Option (Int32 × Mm) := oR u s1 9 (oB (fX9_settle u s1 s0) (fun _ u3 => (if (x1 : Int32) = 0 then bX9_behindTest_47 u3 a0 x1 30 a0 else bX9_behindTest_47 u3 a0 x1 29 a0)))
set_option maxRecDepth 100000 in
set_option maxHeartbeats 4000000 in
theorem pX9_behindTest_32 {r : Int32} {u' : Mm} (u : Mm) (a0 : Nat) (x1 : Int32) (s0 : Int32) (s1 : Nat) (h : bX9_behindTest_32 u a0 x1 s0 s1 = some (r, u')) : Eg MX9_behindTest 3 0 0 (some (.int r), u') 32 [(0, .ref a0), (1, .int x1)] [.int s0, .ref s1] u := by
  unfold bX9_behindTest_32 at h
  refine F_Vv h (fun m e => tX9_settle e) dX9_behindTest_32 hm_X9_settle hv_X9_settle ln_X9_321 rfl rfl (Nat.le_of_ble_eq_true rfl) (Nat.le_of_ble_eq_true rfl) (kc' := 0) (ks' := 0) rfl rfl (fun u3 h => ?_)
  refine E_aload_n dX9_behindTest_35 rfl rfl ?_
  refine E_iload_n dX9_behindTest_36 rfl rfl ?_
  refine E_if_eq (tgt := 45) h dX9_behindTest_37 (by decide) (fun h => ?_) (fun h => ?_)
  · refine E_bipush (v := 30) dX9_behindTest_45 (by decide) ?_
    refine Eg.pick [0, 1] rfl ?_
    exact pX9_behindTest_47 _ _ _ _ _ h
  · refine E_bipush (v := 29) dX9_behindTest_40 (by decide) ?_
    refine E_goto (tgt := 47) dX9_behindTest_42 (by decide) ?_
    refine Eg.pick [0, 1] rfl ?_
    exact pX9_behindTest_47 _ _ _ _ _ h
def bX9_behindTest_22 (u : Mm) (a0 : Nat) (x1 : Int32) : Option (Int32 × Mm) := (if (x1 : Int32) = 0 then bX9_behindTest_32 u a0 x1 1 a0 else bX9_behindTest_32 u a0 x1 2 a0)
set_option maxRecDepth 100000 in
set_option maxHeartbeats 4000000 in
theorem pX9_behindTest_22 {r : Int32} {u' : Mm} (u : Mm) (a0 : Nat) (x1 : Int32) (h : bX9_behindTest_22 u a0 x1 = some (r, u')) : Eg MX9_behindTest 3 0 0 (some (.int r), u') 22 [(0, .ref a0), (1, .int x1)] [] u := by
  unfold bX9_behindTest_22 at h
  refine E_aload_n dX9_behindTest_22 rfl rfl ?_
  refine E_iload_n dX9_behindTest_23 rfl rfl ?_
  refine E_if_eq (tgt := 31) h dX9_behindTest_24 (by decide) (fun h => ?_) (fun h => ?_)
  · refine E_iconst (v := 1) dX9_behindTest_31 (by decide) ?_
    refine Eg.pick [0, 1] rfl ?_
    exact pX9_behindTest_32 _ _ _ _ _ h
  · refine E_iconst (v := 2) dX9_behindTest_27 (by decide) ?_
    refine E_goto (tgt := 32) dX9_behindTest_28 (by decide) ?_
    refine Eg.pick [0, 1] rfl ?_
    exact pX9_behindTest_32 _ _ _ _ _ h
def fX9_behindTest (u : Mm) (a0 : Nat) : Option (Int32 × Mm) := oR u a0 9 (oB (fX9_isWord u a0 1476) (fun v1 u2 => (if (v1 : Int32) = 0 then oR u2 a0 9 (oB (fX9_isWord u2 a0 498) (fun v8 u9 => (if (v8 : Int32) = 0 then oR u9 a0 9 (oB (fX9_inner u9 a0) (fun v10 u11 => (if (v10 : Int32) = ((-1)) then some (4, u11) else oR u11 a0 9 (oB (fX9_isSign u11 a0 41) (fun v12 u13 => oR u13 a0 9 (oB (fX9_must u13 a0 v12) (fun _ u14 => oK u14 a0 9 54 (oI (mI u14 a0 19) (fun v15 => (if (v15 : Int32) = 0 then oR u14 a0 9 (oB (fX9_settle u14 a0 1) (fun _ u16 => oK u16 a0 9 54 (oI (mI u16 a0 29) (fun v17 => oK u16 a0 9 54 (oU (wI u16 a0 (upd (mI u16 a0) 29 (v17 - 1))) (fun u18 => oK u18 a0 9 54 (oI (mI u18 a0 30) (fun v19 => oK u18 a0 9 54 (oU (wI u18 a0 (upd (mI u18 a0) 30 (v19 - 1))) (fun u20 => some (2, u20))))))))))) else some (2, u14))))))))))) else bX9_behindTest_22 u9 a0 v1))) else bX9_behindTest_22 u2 a0 v1)))
set_option maxRecDepth 100000 in
set_option maxHeartbeats 4000000 in
theorem tX9_behindTest {u : Mm} {a0 : Nat} {r : Int32} {u' : Mm} (h : fX9_behindTest u a0 = some (r, u')) : Ev 3 MX9_behindTest 0 0 [.ref a0] u (some (.int r), u') := by
  refine Ev.of (by decide +kernel) (Nat.le_of_ble_eq_true rfl) (show Eg MX9_behindTest 3 0 0 (some (.int r), u') 0 [(0, .ref a0)] [] u from ?_)
  unfold fX9_behindTest at h
  refine E_aload_n dX9_behindTest_0 rfl rfl ?_
  refine E_ldc2 dX9_behindTest_1 rfl cn_X9_331 ?_
  refine F_Vi h (fun a m e => tX9_isWord e) dX9_behindTest_4 hm_X9_isWord hv_X9_isWord ln_X9_277 rfl rfl (Nat.le_of_ble_eq_true rfl) (Nat.le_of_ble_eq_true rfl) (kc' := 0) (ks' := 0) rfl rfl (fun v1 u2 h => ?_)
  refine E_istore_n (l' := [(1, .int v1), (0, .ref a0)]) dX9_behindTest_7 rfl (Nat.le_of_ble_eq_true rfl) rfl ?_
  refine E_iload_n dX9_behindTest_8 rfl rfl ?_
  refine E_if_ne (tgt := 22) h dX9_behindTest_9 (by decide) (fun h => ?_) (fun h => ?_)
  · refine Eg.pick [1, 0] rfl ?_
    exact pX9_behindTest_22 _ _ _ h
  · refine E_aload_n dX9_behindTest_12 rfl rfl ?_
    refine E_ldc2 dX9_behindTest_13 rfl cn_X9_333 ?_
    refine F_Vi h (fun a m e => tX9_isWord e) dX9_behindTest_16 hm_X9_isWord hv_X9_isWord ln_X9_277 rfl rfl (Nat.le_of_ble_eq_true rfl) (Nat.le_of_ble_eq_true rfl) (kc' := 0) (ks' := 0) rfl rfl (fun v8 u9 h => ?_)
    refine E_if_eq (tgt := 76) h dX9_behindTest_19 (by decide) (fun h => ?_) (fun h => ?_)
    · refine E_aload_n dX9_behindTest_76 rfl rfl ?_
      refine F_Vi h (fun a m e => tX9_inner e) dX9_behindTest_77 hm_X9_inner hv_X9_inner ln_X9_324 rfl rfl (Nat.le_of_ble_eq_true rfl) (Nat.le_of_ble_eq_true rfl) (kc' := 0) (ks' := 0) rfl rfl (fun v10 u11 h => ?_)
      refine E_iconst (v := (-1)) dX9_behindTest_80 (by decide) ?_
      refine E_ic_ne (tgt := 86) h dX9_behindTest_81 (by decide) (fun h => ?_) (fun h => ?_)
      · refine E_aload_n dX9_behindTest_86 rfl rfl ?_
        refine E_aload_n dX9_behindTest_87 rfl rfl ?_
        refine E_bipush (v := 41) dX9_behindTest_88 (by decide) ?_
        refine F_Vi h (fun a m e => tX9_isSign e) dX9_behindTest_90 hm_X9_isSign hv_X9_isSign ln_X9_290 rfl rfl (Nat.le_of_ble_eq_true rfl) (Nat.le_of_ble_eq_true rfl) (kc' := 0) (ks' := 0) rfl rfl (fun v12 u13 h => ?_)
        refine F_Vv h (fun m e => tX9_must e) dX9_behindTest_93 hm_X9_must hv_X9_must ln_X9_254 rfl rfl (Nat.le_of_ble_eq_true rfl) (Nat.le_of_ble_eq_true rfl) (kc' := 0) (ks' := 0) rfl rfl (fun u14 h => ?_)
        refine E_aload_n dX9_behindTest_96 rfl rfl ?_
        refine E_getI h dX9_behindTest_97 cf9 lk_X9_223 (by decide) (fun _ _ _ => rfl) (fun h => ?_)
        refine E_oI h (fun v15 h => ?_)
        refine E_if_ne (tgt := 128) h dX9_behindTest_100 (by decide) (fun h => ?_) (fun h => ?_)
        · refine E_iconst (v := 2) dX9_behindTest_128 (by decide) ?_
          exact E_iret h dX9_behindTest_129 rfl
        · refine E_aload_n dX9_behindTest_103 rfl rfl ?_
          refine E_iconst (v := 1) dX9_behindTest_104 (by decide) ?_
          refine F_Vv h (fun m e => tX9_settle e) dX9_behindTest_105 hm_X9_settle hv_X9_settle ln_X9_321 rfl rfl (Nat.le_of_ble_eq_true rfl) (Nat.le_of_ble_eq_true rfl) (kc' := 0) (ks' := 0) rfl rfl (fun u16 h => ?_)
          refine E_aload_n dX9_behindTest_108 rfl rfl ?_
          refine E_dup dX9_behindTest_109 rfl ?_
          refine E_getI h dX9_behindTest_110 cf9 lk_X9_261 (by decide) (fun _ _ _ => rfl) (fun h => ?_)
          refine E_oI h (fun v17 h => ?_)
          refine E_iconst (v := 1) dX9_behindTest_113 (by decide) ?_
          refine E_isub dX9_behindTest_114 ?_
          refine E_putI h dX9_behindTest_115 cf9 lk_X9_261 (by decide) (Or.inl rfl) rfl (fun h => ?_)
          refine E_oU h (fun u18 h => ?_)
          refine E_aload_n dX9_behindTest_118 rfl rfl ?_
          refine E_dup dX9_behindTest_119 rfl ?_
          refine E_getI h dX9_behindTest_120 cf9 lk_X9_281 (by decide) (fun _ _ _ => rfl) (fun h => ?_)
          refine E_oI h (fun v19 h => ?_)
          refine E_iconst (v := 1) dX9_behindTest_123 (by decide) ?_
          refine E_isub dX9_behindTest_124 ?_
          refine E_putI h dX9_behindTest_125 cf9 lk_X9_281 (by decide) (Or.inl rfl) rfl (fun h => ?_)
          refine E_oU h (fun u20 h => ?_)
          refine E_iconst (v := 2) dX9_behindTest_128 (by decide) ?_
          exact E_iret h dX9_behindTest_129 rfl
      · refine E_iconst (v := 4) dX9_behindTest_84 (by decide) ?_
        exact E_iret h dX9_behindTest_85 rfl
    · refine Eg.pick [1, 0] rfl ?_
      exact pX9_behindTest_22 _ _ _ h
def bX9_readExpression_76 (u : Mm) (a0 : Nat) : Option (Unit × Mm) := oR u a0 9 (oB (fX9_settle u a0 1) (fun _ u4 => some ((), u4)))
set_option maxRecDepth 100000 in
set_option maxHeartbeats 4000000 in
theorem pX9_readExpression_76 {r : Unit} {u' : Mm} (u : Mm) (a0 : Nat) (h : bX9_readExpression_76 u a0 = some (r, u')) : Eg MX9_readExpression 6 0 0 (none, u') 76 [(0, .ref a0)] [] u := by
  unfold bX9_readExpression_76 at h
  refine E_aload_n dX9_readExpression_76 rfl rfl ?_
  refine E_iconst (v := 1) dX9_readExpression_77 (by decide) ?_
  refine F_Vv h (fun m e => tX9_settle e) dX9_readExpression_78 hm_X9_settle hv_X9_settle ln_X9_321 rfl rfl (Nat.le_of_ble_eq_true rfl) (Nat.le_of_ble_eq_true rfl) (kc' := 0) (ks' := 0) rfl rfl (fun u4 h => ?_)
  exact E_vret h dX9_readExpression_81 rfl
def bX9_readExpression_72 (k20 : Mm → Nat → Int32 → Int32 → Option (Unit × Mm)) (u : Mm) (a0 : Nat) (x1 : Int32) (s0 : Int32) : Option (Unit × Mm) := k20 u a0 x1 s0
set_option maxRecDepth 100000 in
set_option maxHeartbeats 4000000 in
theorem pX9_readExpression_72 {r : Unit} {u' : Mm} {k20 : Mm → Nat → Int32 → Int32 → Option (Unit × Mm)} (hk20 : ∀ (u : Mm) (a0 : Nat) (x1 : Int32) (x2 : Int32), k20 u a0 x1 x2 = some (r, u') → Eg MX9_readExpression 6 0 0 (none, u') 20 [(0, .ref a0), (1, .int x1), (2, .int x2)] [] u) (u : Mm) (a0 : Nat) (x1 : Int32) (s0 : Int32) (h : bX9_readExpression_72 k20 u a0 x1 s0 = some (r, u')) : Eg MX9_readExpression 6 0 0 (none, u') 72 [(0, .ref a0), (1, .int x1)] [.int s0] u := by
  unfold bX9_readExpression_72 at h
  refine E_istore_n (l' := [(2, .int s0), (0, .ref a0), (1, .int x1)]) dX9_readExpression_72 rfl (Nat.le_of_ble_eq_true rfl) rfl ?_
  refine E_goto (tgt := 20) dX9_readExpression_73 (by decide) ?_
  refine Eg.pick [1, 2, 0] rfl ?_
  exact hk20 _ _ _ _ h
def bX9_readExpression_20 (k20 : Mm → Nat → Int32 → Int32 → Option (Unit × Mm)) (u : Mm) (a0 : Nat) (x1 : Int32) (x2 : Int32) : Option (Unit × Mm) := oK u a0 9 54 (oI (mI u a0 19) (fun v3 => (if (v3 : Int32) = 0 then (if (x2 : Int32) = 4 then bX9_readExpression_76 u a0 else (if (x2 : Int32) = 0 then oR u a0 9 (oB (fX9_readPlain u a0) (fun v11 u12 => bX9_readExpression_72 k20 u12 a0 x1 v11)) else (if (x2 : Int32) = 1 then oR u a0 9 (oB (fX9_readPart u a0) (fun v9 u10 => bX9_readExpression_72 k20 u10 a0 x1 v9)) else (if (x2 : Int32) = 3 then oR u a0 9 (oB (fX9_behindSum u a0 x1) (fun v7 u8 => bX9_readExpression_72 k20 u8 a0 x1 v7)) else oR u a0 9 (oB (fX9_behindTest u a0) (fun v5 u6 => bX9_readExpression_72 k20 u6 a0 x1 v5)))))) else bX9_readExpression_76 u a0)))
set_option maxRecDepth 100000 in
set_option maxHeartbeats 4000000 in
theorem pX9_readExpression_20 {r : Unit} {u' : Mm} {k20 : Mm → Nat → Int32 → Int32 → Option (Unit × Mm)} (hk20 : ∀ (u : Mm) (a0 : Nat) (x1 : Int32) (x2 : Int32), k20 u a0 x1 x2 = some (r, u') → Eg MX9_readExpression 6 0 0 (none, u') 20 [(0, .ref a0), (1, .int x1), (2, .int x2)] [] u) (u : Mm) (a0 : Nat) (x1 : Int32) (x2 : Int32) (h : bX9_readExpression_20 k20 u a0 x1 x2 = some (r, u')) : Eg MX9_readExpression 6 0 0 (none, u') 20 [(0, .ref a0), (1, .int x1), (2, .int x2)] [] u := by
  unfold bX9_readExpression_20 at h
  refine E_aload_n dX9_readExpression_20 rfl rfl ?_
  refine E_getI h dX9_readExpression_21 cf9 lk_X9_223 (by decide) (fun _ _ _ => rfl) (fun h => ?_)
  refine E_oI h (fun v3 h => ?_)
  refine E_if_ne (tgt := 76) h dX9_readExpression_24 (by decide) (fun h => ?_) (fun h => ?_)
  · refine Eg.pick [0] rfl ?_
    exact pX9_readExpression_76 _ _ h
  · refine E_iload_n dX9_readExpression_27 rfl rfl ?_
    refine E_iconst (v := 4) dX9_readExpression_28 (by decide) ?_
    refine E_ic_eq (tgt := 76) h dX9_readExpression_29 (by decide) (fun h => ?_) (fun h => ?_)
    · refine Eg.pick [0] rfl ?_
      exact pX9_readExpression_76 _ _ h
    · refine E_iload_n dX9_readExpression_32 rfl rfl ?_
      refine E_if_ne (tgt := 43) h dX9_readExpression_33 (by decide) (fun h => ?_) (fun h => ?_)
      · refine E_iload_n dX9_readExpression_43 rfl rfl ?_
        refine E_iconst (v := 1) dX9_readExpression_44 (by decide) ?_
        refine E_ic_ne (tgt := 55) h dX9_readExpression_45 (by decide) (fun h => ?_) (fun h => ?_)
        · refine E_iload_n dX9_readExpression_55 rfl rfl ?_
          refine E_iconst (v := 3) dX9_readExpression_56 (by decide) ?_
          refine E_ic_ne (tgt := 68) h dX9_readExpression_57 (by decide) (fun h => ?_) (fun h => ?_)
          · refine E_aload_n dX9_readExpression_68 rfl rfl ?_
            refine F_Vi h (fun a m e => tX9_behindTest e) dX9_readExpression_69 hm_X9_behindTest hv_X9_behindTest ln_X9_342 rfl rfl (Nat.le_of_ble_eq_true rfl) (Nat.le_of_ble_eq_true rfl) (kc' := 0) (ks' := 0) rfl rfl (fun v5 u6 h => ?_)
            refine Eg.pick [0, 1] rfl ?_
            exact pX9_readExpression_72 hk20 _ _ _ _ h
          · refine E_aload_n dX9_readExpression_60 rfl rfl ?_
            refine E_iload_n dX9_readExpression_61 rfl rfl ?_
            refine F_Vi h (fun a m e => tX9_behindSum e) dX9_readExpression_62 hm_X9_behindSum hv_X9_behindSum ln_X9_338 rfl rfl (Nat.le_of_ble_eq_true rfl) (Nat.le_of_ble_eq_true rfl) (kc' := 0) (ks' := 0) rfl rfl (fun v7 u8 h => ?_)
            refine E_goto (tgt := 72) dX9_readExpression_65 (by decide) ?_
            refine Eg.pick [0, 1] rfl ?_
            exact pX9_readExpression_72 hk20 _ _ _ _ h
        · refine E_aload_n dX9_readExpression_48 rfl rfl ?_
          refine F_Vi h (fun a m e => tX9_readPart e) dX9_readExpression_49 hm_X9_readPart hv_X9_readPart ln_X9_318 rfl rfl (Nat.le_of_ble_eq_true rfl) (Nat.le_of_ble_eq_true rfl) (kc' := 0) (ks' := 0) rfl rfl (fun v9 u10 h => ?_)
          refine E_goto (tgt := 72) dX9_readExpression_52 (by decide) ?_
          refine Eg.pick [0, 1] rfl ?_
          exact pX9_readExpression_72 hk20 _ _ _ _ h
      · refine E_aload_n dX9_readExpression_36 rfl rfl ?_
        refine F_Vi h (fun a m e => tX9_readPlain e) dX9_readExpression_37 hm_X9_readPlain hv_X9_readPlain ln_X9_335 rfl rfl (Nat.le_of_ble_eq_true rfl) (Nat.le_of_ble_eq_true rfl) (kc' := 0) (ks' := 0) rfl rfl (fun v11 u12 h => ?_)
        refine E_goto (tgt := 72) dX9_readExpression_40 (by decide) ?_
        refine Eg.pick [0, 1] rfl ?_
        exact pX9_readExpression_72 hk20 _ _ _ _ h
def rX9_readExpression_20 : Nat → Mm → Nat → Int32 → Int32 → Option (Unit × Mm)
  | 0, _, _, _, _ => none
  | n + 1, u, a0, x1, x2 => bX9_readExpression_20 (rX9_readExpression_20 n) u a0 x1 x2
theorem prX9_readExpression_20 {r : Unit} {u' : Mm} : ∀ (n : Nat) (u : Mm) (a0 : Nat) (x1 : Int32) (x2 : Int32), rX9_readExpression_20 n u a0 x1 x2 = some (r, u') → Eg MX9_readExpression 6 0 0 (none, u') 20 [(0, .ref a0), (1, .int x1), (2, .int x2)] [] u
  | 0, _, _, _, _, h => by cases h
  | n + 1, u, a0, x1, x2, h => pX9_readExpression_20 (prX9_readExpression_20 n) u a0 x1 x2 h
def bX9_readExpression_19 (u : Mm) (a0 : Nat) (x1 : Int32) (s0 : Int32) : Option (Unit × Mm) := rX9_readExpression_20 hwF u a0 x1 s0
set_option maxRecDepth 100000 in
set_option maxHeartbeats 4000000 in
theorem pX9_readExpression_19 {r : Unit} {u' : Mm} (u : Mm) (a0 : Nat) (x1 : Int32) (s0 : Int32) (h : bX9_readExpression_19 u a0 x1 s0 = some (r, u')) : Eg MX9_readExpression 6 0 0 (none, u') 19 [(0, .ref a0), (1, .int x1)] [.int s0] u := by
  unfold bX9_readExpression_19 at h
  refine E_istore_n (l' := [(2, .int s0), (0, .ref a0), (1, .int x1)]) dX9_readExpression_19 rfl (Nat.le_of_ble_eq_true rfl) rfl ?_
  refine Eg.pick [1, 2, 0] rfl ?_
  exact prX9_readExpression_20 _ _ _ _ _ h
def fX9_readExpression (u : Mm) (a0 : Nat) (x1 : Int32) : Option (Unit × Mm) := oK u a0 9 54 (oU (wI u a0 (upd (mI u a0) 29 0)) (fun u1 => oK u1 a0 9 54 (oU (wI u1 a0 (upd (mI u1 a0) 30 0)) (fun u2 => (if (x1 : Int32) = 0 then bX9_readExpression_19 u2 a0 x1 1 else bX9_readExpression_19 u2 a0 x1 0)))))
set_option maxRecDepth 100000 in
set_option maxHeartbeats 4000000 in
theorem tX9_readExpression {u : Mm} {a0 : Nat} {x1 : Int32} {r : Unit} {u' : Mm} (h : fX9_readExpression u a0 x1 = some (r, u')) : Ev 6 MX9_readExpression 0 0 [.ref a0, .int x1] u (none, u') := by
  refine Ev.of (by decide +kernel) (Nat.le_of_ble_eq_true rfl) (show Eg MX9_readExpression 6 0 0 (none, u') 0 [(0, .ref a0), (1, .int x1)] [] u from ?_)
  unfold fX9_readExpression at h
  refine E_aload_n dX9_readExpression_0 rfl rfl ?_
  refine E_iconst (v := 0) dX9_readExpression_1 (by decide) ?_
  refine E_putI h dX9_readExpression_2 cf9 lk_X9_261 (by decide) (Or.inl rfl) rfl (fun h => ?_)
  refine E_oU h (fun u1 h => ?_)
  refine E_aload_n dX9_readExpression_5 rfl rfl ?_
  refine E_iconst (v := 0) dX9_readExpression_6 (by decide) ?_
  refine E_putI h dX9_readExpression_7 cf9 lk_X9_281 (by decide) (Or.inl rfl) rfl (fun h => ?_)
  refine E_oU h (fun u2 h => ?_)
  refine E_iload_n dX9_readExpression_10 rfl rfl ?_
  refine E_if_eq (tgt := 18) h dX9_readExpression_11 (by decide) (fun h => ?_) (fun h => ?_)
  · refine E_iconst (v := 1) dX9_readExpression_18 (by decide) ?_
    refine Eg.pick [0, 1] rfl ?_
    exact pX9_readExpression_19 _ _ _ _ h
  · refine E_iconst (v := 0) dX9_readExpression_14 (by decide) ?_
    refine E_goto (tgt := 19) dX9_readExpression_15 (by decide) ?_
    refine Eg.pick [0, 1] rfl ?_
    exact pX9_readExpression_19 _ _ _ _ h
def fX9_beginText (u : Mm) (a0 : Nat) (x1 : Int32) : Option (Unit × Mm) := oK u a0 9 54 (oZ x1 (oU (wI u a0 (upd (mI u a0) 20 x1)) (fun u1 => oR u1 a0 9 (oB (fX9_begin u1 a0) (fun _ u2 => oK u2 a0 9 54 (oU (wI u2 a0 (upd (mI u2 a0) 21 0)) (fun u3 => oK u3 a0 9 54 (oU (wI u3 a0 (upd (mI u3 a0) 23 0)) (fun u4 => oK u4 a0 9 54 (oU (wI u4 a0 (upd (mI u4 a0) 26 0)) (fun u5 => some ((), u5))))))))))))
set_option maxRecDepth 100000 in
set_option maxHeartbeats 4000000 in
theorem tX9_beginText {u : Mm} {a0 : Nat} {x1 : Int32} {r : Unit} {u' : Mm} (h : fX9_beginText u a0 x1 = some (r, u')) : Ev 3 MX9_beginText 0 0 [.ref a0, .int x1] u (none, u') := by
  refine Ev.of (by decide +kernel) (Nat.le_of_ble_eq_true rfl) (show Eg MX9_beginText 3 0 0 (none, u') 0 [(0, .ref a0), (1, .int x1)] [] u from ?_)
  unfold fX9_beginText at h
  refine E_aload_n dX9_beginText_0 rfl rfl ?_
  refine E_iload_n dX9_beginText_1 rfl rfl ?_
  refine E_putZ h dX9_beginText_2 cf9 lk_X9_296 (by decide) (Or.inl rfl) rfl (fun h => ?_)
  refine E_oU h (fun u1 h => ?_)
  refine E_aload_n dX9_beginText_5 rfl rfl ?_
  refine F_Vv h (fun m e => tX9_begin e) dX9_beginText_6 hm_X9_begin hv_X9_begin ln_X9_345 rfl rfl (Nat.le_of_ble_eq_true rfl) (Nat.le_of_ble_eq_true rfl) (kc' := 0) (ks' := 0) rfl rfl (fun u2 h => ?_)
  refine E_aload_n dX9_beginText_9 rfl rfl ?_
  refine E_iconst (v := 0) dX9_beginText_10 (by decide) ?_
  refine E_putI h dX9_beginText_11 cf9 lk_X9_348 (by decide) (Or.inl rfl) rfl (fun h => ?_)
  refine E_oU h (fun u3 h => ?_)
  refine E_aload_n dX9_beginText_14 rfl rfl ?_
  refine E_iconst (v := 0) dX9_beginText_15 (by decide) ?_
  refine E_putI h dX9_beginText_16 cf9 lk_X9_258 (by decide) (Or.inl rfl) rfl (fun h => ?_)
  refine E_oU h (fun u4 h => ?_)
  refine E_aload_n dX9_beginText_19 rfl rfl ?_
  refine E_iconst (v := 0) dX9_beginText_20 (by decide) ?_
  refine E_putI h dX9_beginText_21 cf9 lk_X9_287 (by decide) (Or.inl rfl) rfl (fun h => ?_)
  refine E_oU h (fun u5 h => ?_)
  exact E_vret h dX9_beginText_24 rfl
def bX9_endText_19 (u : Mm) (a0 : Nat) : Option (Unit × Mm) := oK u a0 9 54 (oZ 0 (oU (wI u a0 (upd (mI u a0) 20 0)) (fun u2 => oK u2 a0 9 54 (oU (wI u2 a0 (upd (mI u2 a0) 13 0)) (fun u3 => some ((), u3))))))
set_option maxRecDepth 100000 in
set_option maxHeartbeats 4000000 in
theorem pX9_endText_19 {r : Unit} {u' : Mm} (u : Mm) (a0 : Nat) (h : bX9_endText_19 u a0 = some (r, u')) : Eg MX9_endText 3 0 0 (none, u') 19 [(0, .ref a0)] [] u := by
  unfold bX9_endText_19 at h
  refine E_aload_n dX9_endText_19 rfl rfl ?_
  refine E_iconst (v := 0) dX9_endText_20 (by decide) ?_
  refine E_putZ h dX9_endText_21 cf9 lk_X9_296 (by decide) (Or.inl rfl) rfl (fun h => ?_)
  refine E_oU h (fun u2 h => ?_)
  refine E_aload_n dX9_endText_24 rfl rfl ?_
  refine E_iconst (v := 0) dX9_endText_25 (by decide) ?_
  refine E_putI h dX9_endText_26 cf9 lk_X9_211 (by decide) (Or.inl rfl) rfl (fun h => ?_)
  refine E_oU h (fun u3 h => ?_)
  exact E_vret h dX9_endText_29 rfl
def fX9_endText (u : Mm) (a0 : Nat) : Option (Unit × Mm) := oK u a0 9 54 (oI (mI u a0 19) (fun v1 => (if (v1 : Int32) = 0 then oK u a0 9 54 (oI (mI u a0 16) (fun v4 => (if (v4 : Int32) = 0 then bX9_endText_19 u a0 else oR u a0 9 (oB (fX9_must u a0 0) (fun _ u5 => bX9_endText_19 u5 a0))))) else bX9_endText_19 u a0)))
set_option maxRecDepth 100000 in
set_option maxHeartbeats 4000000 in
theorem tX9_endText {u : Mm} {a0 : Nat} {r : Unit} {u' : Mm} (h : fX9_endText u a0 = some (r, u')) : Ev 3 MX9_endText 0 0 [.ref a0] u (none, u') := by
  refine Ev.of (by decide +kernel) (Nat.le_of_ble_eq_true rfl) (show Eg MX9_endText 3 0 0 (none, u') 0 [(0, .ref a0)] [] u from ?_)
  unfold fX9_endText at h
  refine E_aload_n dX9_endText_0 rfl rfl ?_
  refine E_getI h dX9_endText_1 cf9 lk_X9_223 (by decide) (fun _ _ _ => rfl) (fun h => ?_)
  refine E_oI h (fun v1 h => ?_)
  refine E_if_ne (tgt := 19) h dX9_endText_4 (by decide) (fun h => ?_) (fun h => ?_)
  · refine Eg.pick [0] rfl ?_
    exact pX9_endText_19 _ _ h
  · refine E_aload_n dX9_endText_7 rfl rfl ?_
    refine E_getI h dX9_endText_8 cf9 lk_X9_243 (by decide) (fun _ _ _ => rfl) (fun h => ?_)
    refine E_oI h (fun v4 h => ?_)
    refine E_if_eq (tgt := 19) h dX9_endText_11 (by decide) (fun h => ?_) (fun h => ?_)
    · refine Eg.pick [0] rfl ?_
      exact pX9_endText_19 _ _ h
    · refine E_aload_n dX9_endText_14 rfl rfl ?_
      refine E_iconst (v := 0) dX9_endText_15 (by decide) ?_
      refine F_Vv h (fun m e => tX9_must e) dX9_endText_16 hm_X9_must hv_X9_must ln_X9_254 rfl rfl (Nat.le_of_ble_eq_true rfl) (Nat.le_of_ble_eq_true rfl) (kc' := 0) (ks' := 0) rfl rfl (fun u5 h => ?_)
      refine Eg.pick [0] rfl ?_
      exact pX9_endText_19 _ _ h
def bX9_readLaw_185 (u : Mm) (a0 : Nat) (x2 : Int32) : Option (Unit × Mm) := oK u a0 9 54 (oNn (mR u a0 22) (fun e19 => oK u a0 9 54 (oI (mI u a0 23) (fun v20 => oA u e19 10 (x2 + 6) (oU (wI u e19 (upd (mI u e19) (Int32.toNatClampNeg (x2 + 6)) v20)) (fun u21 => some ((), u21)))))))
set_option maxRecDepth 100000 in
set_option maxHeartbeats 4000000 in
theorem pX9_readLaw_185 {r : Unit} {u' : Mm} (u : Mm) (a0 : Nat) (x2 : Int32) (h : bX9_readLaw_185 u a0 x2 = some (r, u')) : Eg MX9_readLaw 7 0 0 (none, u') 185 [(0, .ref a0), (2, .int x2)] [] u := by
  unfold bX9_readLaw_185 at h
  refine E_aload_n dX9_readLaw_185 rfl rfl ?_
  refine E_getA h dX9_readLaw_186 cf9 lk_X9_42 (by decide) (fun _ _ _ => rfl) (fun e19 h => ?_)
  refine E_iload_n dX9_readLaw_189 rfl rfl ?_
  refine E_bipush (v := 6) dX9_readLaw_190 (by decide) ?_
  refine E_iadd dX9_readLaw_192 ?_
  refine E_aload_n dX9_readLaw_193 rfl rfl ?_
  refine E_getI h dX9_readLaw_194 cf9 lk_X9_258 (by decide) (fun _ _ _ => rfl) (fun h => ?_)
  refine E_oI h (fun v20 h => ?_)
  refine E_iast h dX9_readLaw_197 (fun h => ?_)
  refine E_oU h (fun u21 h => ?_)
  exact E_vret h dX9_readLaw_198 rfl
def bX9_readLaw_135 (u : Mm) (a0 : Nat) (x2 : Int32) : Option (Unit × Mm) := oK u a0 9 54 (oNn (mR u a0 22) (fun e12 => oK u a0 9 54 (oI (mI u a0 23) (fun v13 => oA u e12 10 (x2 + 4) (oU (wI u e12 (upd (mI u e12) (Int32.toNatClampNeg (x2 + 4)) v13)) (fun u14 => oK u14 a0 9 54 (oNn (mR u14 a0 22) (fun e15 => oK u14 a0 9 54 (oI (mI u14 a0 23) (fun v16 => oA u14 e15 10 (x2 + 5) (oU (wI u14 e15 (upd (mI u14 e15) (Int32.toNatClampNeg (x2 + 5)) v16)) (fun u17 => oK u17 a0 9 54 (oI (mI u17 a0 19) (fun v18 => (if (v18 : Int32) = 0 then oR u17 a0 9 (oB (fX9_isWord u17 a0 294) (fun v22 u23 => (if (v22 : Int32) = 0 then bX9_readLaw_185 u23 a0 x2 else oR u23 a0 9 (oB (fX9_next u23 a0) (fun _ u24 => oR u24 a0 9 (oB (fX9_readExpression u24 a0 1) (fun _ u25 => bX9_readLaw_185 u25 a0 x2))))))) else bX9_readLaw_185 u17 a0 x2)))))))))))))))
set_option maxRecDepth 100000 in
set_option maxHeartbeats 4000000 in
theorem pX9_readLaw_135 {r : Unit} {u' : Mm} (u : Mm) (a0 : Nat) (x2 : Int32) (h : bX9_readLaw_135 u a0 x2 = some (r, u')) : Eg MX9_readLaw 7 0 0 (none, u') 135 [(0, .ref a0), (2, .int x2)] [] u := by
  unfold bX9_readLaw_135 at h
  refine E_aload_n dX9_readLaw_135 rfl rfl ?_
  refine E_getA h dX9_readLaw_136 cf9 lk_X9_42 (by decide) (fun _ _ _ => rfl) (fun e12 h => ?_)
  refine E_iload_n dX9_readLaw_139 rfl rfl ?_
  refine E_iconst (v := 4) dX9_readLaw_140 (by decide) ?_
  refine E_iadd dX9_readLaw_141 ?_
  refine E_aload_n dX9_readLaw_142 rfl rfl ?_
  refine E_getI h dX9_readLaw_143 cf9 lk_X9_258 (by decide) (fun _ _ _ => rfl) (fun h => ?_)
  refine E_oI h (fun v13 h => ?_)
  refine E_iast h dX9_readLaw_146 (fun h => ?_)
  refine E_oU h (fun u14 h => ?_)
  refine E_aload_n dX9_readLaw_147 rfl rfl ?_
  refine E_getA h dX9_readLaw_148 cf9 lk_X9_42 (by decide) (fun _ _ _ => rfl) (fun e15 h => ?_)
  refine E_iload_n dX9_readLaw_151 rfl rfl ?_
  refine E_iconst (v := 5) dX9_readLaw_152 (by decide) ?_
  refine E_iadd dX9_readLaw_153 ?_
  refine E_aload_n dX9_readLaw_154 rfl rfl ?_
  refine E_getI h dX9_readLaw_155 cf9 lk_X9_258 (by decide) (fun _ _ _ => rfl) (fun h => ?_)
  refine E_oI h (fun v16 h => ?_)
  refine E_iast h dX9_readLaw_158 (fun h => ?_)
  refine E_oU h (fun u17 h => ?_)
  refine E_aload_n dX9_readLaw_159 rfl rfl ?_
  refine E_getI h dX9_readLaw_160 cf9 lk_X9_223 (by decide) (fun _ _ _ => rfl) (fun h => ?_)
  refine E_oI h (fun v18 h => ?_)
  refine E_if_ne (tgt := 185) h dX9_readLaw_163 (by decide) (fun h => ?_) (fun h => ?_)
  · refine Eg.pick [0, 1] rfl ?_
    exact pX9_readLaw_185 _ _ _ h
  · refine E_aload_n dX9_readLaw_166 rfl rfl ?_
    refine E_ldc2 dX9_readLaw_167 rfl cn_X9_354 ?_
    refine F_Vi h (fun a m e => tX9_isWord e) dX9_readLaw_170 hm_X9_isWord hv_X9_isWord ln_X9_277 rfl rfl (Nat.le_of_ble_eq_true rfl) (Nat.le_of_ble_eq_true rfl) (kc' := 0) (ks' := 0) rfl rfl (fun v22 u23 h => ?_)
    refine E_if_eq (tgt := 185) h dX9_readLaw_173 (by decide) (fun h => ?_) (fun h => ?_)
    · refine Eg.pick [0, 1] rfl ?_
      exact pX9_readLaw_185 _ _ _ h
    · refine E_aload_n dX9_readLaw_176 rfl rfl ?_
      refine F_Vv h (fun m e => tX9_next e) dX9_readLaw_177 hm_X9_next hv_X9_next ln_X9_227 rfl rfl (Nat.le_of_ble_eq_true rfl) (Nat.le_of_ble_eq_true rfl) (kc' := 0) (ks' := 0) rfl rfl (fun u24 h => ?_)
      refine E_aload_n dX9_readLaw_180 rfl rfl ?_
      refine E_iconst (v := 1) dX9_readLaw_181 (by decide) ?_
      refine F_Vv h (fun m e => tX9_readExpression e) dX9_readLaw_182 hm_X9_readExpression hv_X9_readExpression ln_X9_351 rfl rfl (Nat.le_of_ble_eq_true rfl) (Nat.le_of_ble_eq_true rfl) (kc' := 0) (ks' := 0) rfl rfl (fun u25 h => ?_)
      refine Eg.pick [0, 1] rfl ?_
      exact pX9_readLaw_185 _ _ _ h
def bX9_readLaw_75 (k75 : Mm → Nat → Int32 → Int32 → Int32 → Option (Unit × Mm)) (u : Mm) (a0 : Nat) (x1 : Int32) (x2 : Int32) (x3 : Int32) : Option (Unit × Mm) := (if (8 : Int32) ≤ x3 then oK u a0 9 54 (oNn (mR u a0 22) (fun e5 => oA u e5 10 x2 (oU (wI u e5 (upd (mI u e5) (Int32.toNatClampNeg x2) x1)) (fun u6 => oK u6 a0 9 54 (oI (mI u6 a0 21) (fun v7 => oK u6 a0 9 54 (oU (wI u6 a0 (upd (mI u6 a0) 21 (v7 + 1))) (fun u8 => oK u8 a0 9 54 (oNn (mR u8 a0 22) (fun e9 => oK u8 a0 9 54 (oI (mI u8 a0 23) (fun v10 => oA u8 e9 10 (x2 + 3) (oU (wI u8 e9 (upd (mI u8 e9) (Int32.toNatClampNeg (x2 + 3)) v10)) (fun u11 => (if (x1 : Int32) = 3 then bX9_readLaw_135 u11 a0 x2 else oR u11 a0 9 (oB (fX9_readExpression u11 a0 0) (fun _ u26 => bX9_readLaw_135 u26 a0 x2))))))))))))))))) else oK u a0 9 54 (oNn (mR u a0 22) (fun e27 => oA u e27 10 (x2 + x3) (oU (wI u e27 (upd (mI u e27) (Int32.toNatClampNeg (x2 + x3)) 0)) (fun u28 => k75 u28 a0 x1 x2 (x3 + 1))))))
set_option maxRecDepth 100000 in
set_option maxHeartbeats 4000000 in
theorem pX9_readLaw_75 {r : Unit} {u' : Mm} {k75 : Mm → Nat → Int32 → Int32 → Int32 → Option (Unit × Mm)} (hk75 : ∀ (u : Mm) (a0 : Nat) (x1 : Int32) (x2 : Int32) (x3 : Int32), k75 u a0 x1 x2 x3 = some (r, u') → Eg MX9_readLaw 7 0 0 (none, u') 75 [(0, .ref a0), (1, .int x1), (2, .int x2), (3, .int x3)] [] u) (u : Mm) (a0 : Nat) (x1 : Int32) (x2 : Int32) (x3 : Int32) (h : bX9_readLaw_75 k75 u a0 x1 x2 x3 = some (r, u')) : Eg MX9_readLaw 7 0 0 (none, u') 75 [(0, .ref a0), (1, .int x1), (2, .int x2), (3, .int x3)] [] u := by
  unfold bX9_readLaw_75 at h
  refine E_iload_n dX9_readLaw_75 rfl rfl ?_
  refine E_bipush (v := 8) dX9_readLaw_76 (by decide) ?_
  refine E_ic_ge (tgt := 96) h dX9_readLaw_78 (by decide) (fun h => ?_) (fun h => ?_)
  · refine E_aload_n dX9_readLaw_96 rfl rfl ?_
    refine E_getA h dX9_readLaw_97 cf9 lk_X9_42 (by decide) (fun _ _ _ => rfl) (fun e5 h => ?_)
    refine E_iload_n dX9_readLaw_100 rfl rfl ?_
    refine E_iload_n dX9_readLaw_101 rfl rfl ?_
    refine E_iast h dX9_readLaw_102 (fun h => ?_)
    refine E_oU h (fun u6 h => ?_)
    refine E_aload_n dX9_readLaw_103 rfl rfl ?_
    refine E_dup dX9_readLaw_104 rfl ?_
    refine E_getI h dX9_readLaw_105 cf9 lk_X9_348 (by decide) (fun _ _ _ => rfl) (fun h => ?_)
    refine E_oI h (fun v7 h => ?_)
    refine E_iconst (v := 1) dX9_readLaw_108 (by decide) ?_
    refine E_iadd dX9_readLaw_109 ?_
    refine E_putI h dX9_readLaw_110 cf9 lk_X9_348 (by decide) (Or.inl rfl) rfl (fun h => ?_)
    refine E_oU h (fun u8 h => ?_)
    refine E_aload_n dX9_readLaw_113 rfl rfl ?_
    refine E_getA h dX9_readLaw_114 cf9 lk_X9_42 (by decide) (fun _ _ _ => rfl) (fun e9 h => ?_)
    refine E_iload_n dX9_readLaw_117 rfl rfl ?_
    refine E_iconst (v := 3) dX9_readLaw_118 (by decide) ?_
    refine E_iadd dX9_readLaw_119 ?_
    refine E_aload_n dX9_readLaw_120 rfl rfl ?_
    refine E_getI h dX9_readLaw_121 cf9 lk_X9_258 (by decide) (fun _ _ _ => rfl) (fun h => ?_)
    refine E_oI h (fun v10 h => ?_)
    refine E_iast h dX9_readLaw_124 (fun h => ?_)
    refine E_oU h (fun u11 h => ?_)
    refine E_iload_n dX9_readLaw_125 rfl rfl ?_
    refine E_iconst (v := 3) dX9_readLaw_126 (by decide) ?_
    refine E_ic_eq (tgt := 135) h dX9_readLaw_127 (by decide) (fun h => ?_) (fun h => ?_)
    · refine Eg.pick [0, 2] rfl ?_
      exact pX9_readLaw_135 _ _ _ h
    · refine E_aload_n dX9_readLaw_130 rfl rfl ?_
      refine E_iconst (v := 0) dX9_readLaw_131 (by decide) ?_
      refine F_Vv h (fun m e => tX9_readExpression e) dX9_readLaw_132 hm_X9_readExpression hv_X9_readExpression ln_X9_351 rfl rfl (Nat.le_of_ble_eq_true rfl) (Nat.le_of_ble_eq_true rfl) (kc' := 0) (ks' := 0) rfl rfl (fun u26 h => ?_)
      refine Eg.pick [0, 2] rfl ?_
      exact pX9_readLaw_135 _ _ _ h
  · refine E_aload_n dX9_readLaw_81 rfl rfl ?_
    refine E_getA h dX9_readLaw_82 cf9 lk_X9_42 (by decide) (fun _ _ _ => rfl) (fun e27 h => ?_)
    refine E_iload_n dX9_readLaw_85 rfl rfl ?_
    refine E_iload_n dX9_readLaw_86 rfl rfl ?_
    refine E_iadd dX9_readLaw_87 ?_
    refine E_iconst (v := 0) dX9_readLaw_88 (by decide) ?_
    refine E_iast h dX9_readLaw_89 (fun h => ?_)
    refine E_oU h (fun u28 h => ?_)
    refine E_iinc (j := 3) (v := x3 + 1) (l' := [(3, .int (x3 + 1)), (0, .ref a0), (1, .int x1), (2, .int x2)]) dX9_readLaw_90 rfl (addI (by decide)) (Nat.le_of_ble_eq_true rfl) rfl ?_
    refine E_goto (tgt := 75) dX9_readLaw_93 (by decide) ?_
    refine Eg.pick [1, 2, 3, 0] rfl ?_
    exact hk75 _ _ _ _ _ h
def rX9_readLaw_75 : Nat → Mm → Nat → Int32 → Int32 → Int32 → Option (Unit × Mm)
  | 0, _, _, _, _, _ => none
  | n + 1, u, a0, x1, x2, x3 => bX9_readLaw_75 (rX9_readLaw_75 n) u a0 x1 x2 x3
theorem prX9_readLaw_75 {r : Unit} {u' : Mm} : ∀ (n : Nat) (u : Mm) (a0 : Nat) (x1 : Int32) (x2 : Int32) (x3 : Int32), rX9_readLaw_75 n u a0 x1 x2 x3 = some (r, u') → Eg MX9_readLaw 7 0 0 (none, u') 75 [(0, .ref a0), (1, .int x1), (2, .int x2), (3, .int x3)] [] u
  | 0, _, _, _, _, _, h => by cases h
  | n + 1, u, a0, x1, x2, x3, h => pX9_readLaw_75 (prX9_readLaw_75 n) u a0 x1 x2 x3 h
def bX9_readLaw_54 (u : Mm) (a0 : Nat) (x1 : Int32) (s0 : Int32) (s1 : Nat) : Option (Unit × Mm) := oR u s1 9 (oB (fX9_must u s1 s0) (fun _ u1 => oK u1 a0 9 54 (oI (mI u1 a0 19) (fun v2 => (if (v2 : Int32) = 0 then oK u1 a0 9 54 (oI (mI u1 a0 21) (fun v3 => oI ((8 : Int32) * v3) (fun v4 => rX9_readLaw_75 hwF u1 a0 x1 v4 0))) else some ((), u1))))))
set_option maxRecDepth 100000 in
set_option maxHeartbeats 4000000 in
theorem pX9_readLaw_54 {r : Unit} {u' : Mm} (u : Mm) (a0 : Nat) (x1 : Int32) (s0 : Int32) (s1 : Nat) (h : bX9_readLaw_54 u a0 x1 s0 s1 = some (r, u')) : Eg MX9_readLaw 7 0 0 (none, u') 54 [(0, .ref a0), (1, .int x1)] [.int s0, .ref s1] u := by
  unfold bX9_readLaw_54 at h
  refine F_Vv h (fun m e => tX9_must e) dX9_readLaw_54 hm_X9_must hv_X9_must ln_X9_254 rfl rfl (Nat.le_of_ble_eq_true rfl) (Nat.le_of_ble_eq_true rfl) (kc' := 0) (ks' := 0) rfl rfl (fun u1 h => ?_)
  refine E_aload_n dX9_readLaw_57 rfl rfl ?_
  refine E_getI h dX9_readLaw_58 cf9 lk_X9_223 (by decide) (fun _ _ _ => rfl) (fun h => ?_)
  refine E_oI h (fun v2 h => ?_)
  refine E_if_eq (tgt := 65) h dX9_readLaw_61 (by decide) (fun h => ?_) (fun h => ?_)
  · refine E_bipush (v := 8) dX9_readLaw_65 (by decide) ?_
    refine E_aload_n dX9_readLaw_67 rfl rfl ?_
    refine E_getI h dX9_readLaw_68 cf9 lk_X9_348 (by decide) (fun _ _ _ => rfl) (fun h => ?_)
    refine E_oI h (fun v3 h => ?_)
    refine E_imul dX9_readLaw_71 ?_
    refine E_oI h (fun v4 h => ?_)
    refine E_istore_n (l' := [(2, .int v4), (0, .ref a0), (1, .int x1)]) dX9_readLaw_72 rfl (Nat.le_of_ble_eq_true rfl) rfl ?_
    refine E_iconst (v := 0) dX9_readLaw_73 (by decide) ?_
    refine E_istore_n (l' := [(3, .int 0), (2, .int v4), (0, .ref a0), (1, .int x1)]) dX9_readLaw_74 rfl (Nat.le_of_ble_eq_true rfl) rfl ?_
    refine Eg.pick [2, 3, 1, 0] rfl ?_
    exact prX9_readLaw_75 _ _ _ _ _ _ h
  · exact E_vret h dX9_readLaw_64 rfl
def bX9_readLaw_53 (u : Mm) (a0 : Nat) (x1 : Int32) (s0 : Nat) : Option (Unit × Mm) := bX9_readLaw_54 u a0 x1 0 s0
set_option maxRecDepth 100000 in
set_option maxHeartbeats 4000000 in
theorem pX9_readLaw_53 {r : Unit} {u' : Mm} (u : Mm) (a0 : Nat) (x1 : Int32) (s0 : Nat) (h : bX9_readLaw_53 u a0 x1 s0 = some (r, u')) : Eg MX9_readLaw 7 0 0 (none, u') 53 [(0, .ref a0), (1, .int x1)] [.ref s0] u := by
  unfold bX9_readLaw_53 at h
  refine E_iconst (v := 0) dX9_readLaw_53 (by decide) ?_
  refine Eg.pick [0, 1] rfl ?_
  exact pX9_readLaw_54 _ _ _ _ _ h
def bX9_readLaw_27 (k4 : Mm → Nat → Int32 → Int32 → Option (Unit × Mm)) (u : Mm) (a0 : Nat) (x2 : Int32) (s0 : Int32) : Option (Unit × Mm) := k4 u a0 s0 (x2 + 1)
set_option maxRecDepth 100000 in
set_option maxHeartbeats 4000000 in
theorem pX9_readLaw_27 {r : Unit} {u' : Mm} {k4 : Mm → Nat → Int32 → Int32 → Option (Unit × Mm)} (hk4 : ∀ (u : Mm) (a0 : Nat) (x1 : Int32) (x2 : Int32), k4 u a0 x1 x2 = some (r, u') → Eg MX9_readLaw 7 0 0 (none, u') 4 [(0, .ref a0), (1, .int x1), (2, .int x2)] [] u) (u : Mm) (a0 : Nat) (x2 : Int32) (s0 : Int32) (h : bX9_readLaw_27 k4 u a0 x2 s0 = some (r, u')) : Eg MX9_readLaw 7 0 0 (none, u') 27 [(0, .ref a0), (2, .int x2)] [.int s0] u := by
  unfold bX9_readLaw_27 at h
  refine E_istore_n (l' := [(1, .int s0), (0, .ref a0), (2, .int x2)]) dX9_readLaw_27 rfl (Nat.le_of_ble_eq_true rfl) rfl ?_
  refine E_iinc (j := 2) (v := x2 + 1) (l' := [(2, .int (x2 + 1)), (1, .int s0), (0, .ref a0)]) dX9_readLaw_28 rfl (addI (by decide)) (Nat.le_of_ble_eq_true rfl) rfl ?_
  refine E_goto (tgt := 4) dX9_readLaw_31 (by decide) ?_
  refine Eg.pick [2, 1, 0] rfl ?_
  exact hk4 _ _ _ _ h
def bX9_readLaw_4 (k4 : Mm → Nat → Int32 → Int32 → Option (Unit × Mm)) (u : Mm) (a0 : Nat) (x1 : Int32) (x2 : Int32) : Option (Unit × Mm) := (if (4 : Int32) ≤ x2 then (if (x1 : Int32) = ((-1)) then bX9_readLaw_53 u a0 x1 a0 else oK u a0 9 54 (oI (mI u a0 21) (fun v29 => (if (12 : Int32) ≤ v29 then bX9_readLaw_53 u a0 x1 a0 else bX9_readLaw_54 u a0 x1 1 a0)))) else oK u a0 9 54 (oNn (mR u a0 33) (fun e30 => oA u e30 11 x2 (oJ (mL u e30 (Int32.toNatClampNeg x2)) (fun w31 => oR u a0 9 (oB (fX9_isWord u a0 w31) (fun v32 u33 => (if (v32 : Int32) = 0 then bX9_readLaw_27 k4 u33 a0 x2 x1 else bX9_readLaw_27 k4 u33 a0 x2 x2))))))))
set_option maxRecDepth 100000 in
set_option maxHeartbeats 4000000 in
theorem pX9_readLaw_4 {r : Unit} {u' : Mm} {k4 : Mm → Nat → Int32 → Int32 → Option (Unit × Mm)} (hk4 : ∀ (u : Mm) (a0 : Nat) (x1 : Int32) (x2 : Int32), k4 u a0 x1 x2 = some (r, u') → Eg MX9_readLaw 7 0 0 (none, u') 4 [(0, .ref a0), (1, .int x1), (2, .int x2)] [] u) (u : Mm) (a0 : Nat) (x1 : Int32) (x2 : Int32) (h : bX9_readLaw_4 k4 u a0 x1 x2 = some (r, u')) : Eg MX9_readLaw 7 0 0 (none, u') 4 [(0, .ref a0), (1, .int x1), (2, .int x2)] [] u := by
  unfold bX9_readLaw_4 at h
  refine E_iload_n dX9_readLaw_4 rfl rfl ?_
  refine E_iconst (v := 4) dX9_readLaw_5 (by decide) ?_
  refine E_ic_ge (tgt := 34) h dX9_readLaw_6 (by decide) (fun h => ?_) (fun h => ?_)
  · refine E_aload_n dX9_readLaw_34 rfl rfl ?_
    refine E_iload_n dX9_readLaw_35 rfl rfl ?_
    refine E_iconst (v := (-1)) dX9_readLaw_36 (by decide) ?_
    refine E_ic_eq (tgt := 53) h dX9_readLaw_37 (by decide) (fun h => ?_) (fun h => ?_)
    · refine Eg.pick [0, 1] rfl ?_
      exact pX9_readLaw_53 _ _ _ _ h
    · refine E_aload_n dX9_readLaw_40 rfl rfl ?_
      refine E_getI h dX9_readLaw_41 cf9 lk_X9_348 (by decide) (fun _ _ _ => rfl) (fun h => ?_)
      refine E_oI h (fun v29 h => ?_)
      refine E_bipush (v := 12) dX9_readLaw_44 (by decide) ?_
      refine E_ic_ge (tgt := 53) h dX9_readLaw_46 (by decide) (fun h => ?_) (fun h => ?_)
      · refine Eg.pick [0, 1] rfl ?_
        exact pX9_readLaw_53 _ _ _ _ h
      · refine E_iconst (v := 1) dX9_readLaw_49 (by decide) ?_
        refine E_goto (tgt := 54) dX9_readLaw_50 (by decide) ?_
        refine Eg.pick [0, 1] rfl ?_
        exact pX9_readLaw_54 _ _ _ _ _ h
  · refine E_aload_n dX9_readLaw_9 rfl rfl ?_
    refine E_aload_n dX9_readLaw_10 rfl rfl ?_
    refine E_getA h dX9_readLaw_11 cf9 lk_X9_96 (by decide) (fun _ _ _ => rfl) (fun e30 h => ?_)
    refine E_iload_n dX9_readLaw_14 rfl rfl ?_
    refine E_lald h dX9_readLaw_15 (fun h => ?_)
    refine E_oJ h (fun w31 h => ?_)
    refine F_Vi h (fun a m e => tX9_isWord e) dX9_readLaw_16 hm_X9_isWord hv_X9_isWord ln_X9_277 rfl rfl (Nat.le_of_ble_eq_true rfl) (Nat.le_of_ble_eq_true rfl) (kc' := 0) (ks' := 0) rfl rfl (fun v32 u33 h => ?_)
    refine E_if_eq (tgt := 26) h dX9_readLaw_19 (by decide) (fun h => ?_) (fun h => ?_)
    · refine E_iload_n dX9_readLaw_26 rfl rfl ?_
      refine Eg.pick [0, 2] rfl ?_
      exact pX9_readLaw_27 hk4 _ _ _ _ h
    · refine E_iload_n dX9_readLaw_22 rfl rfl ?_
      refine E_goto (tgt := 27) dX9_readLaw_23 (by decide) ?_
      refine Eg.pick [0, 2] rfl ?_
      exact pX9_readLaw_27 hk4 _ _ _ _ h
def rX9_readLaw_4 : Nat → Mm → Nat → Int32 → Int32 → Option (Unit × Mm)
  | 0, _, _, _, _ => none
  | n + 1, u, a0, x1, x2 => bX9_readLaw_4 (rX9_readLaw_4 n) u a0 x1 x2
theorem prX9_readLaw_4 {r : Unit} {u' : Mm} : ∀ (n : Nat) (u : Mm) (a0 : Nat) (x1 : Int32) (x2 : Int32), rX9_readLaw_4 n u a0 x1 x2 = some (r, u') → Eg MX9_readLaw 7 0 0 (none, u') 4 [(0, .ref a0), (1, .int x1), (2, .int x2)] [] u
  | 0, _, _, _, _, h => by cases h
  | n + 1, u, a0, x1, x2, h => pX9_readLaw_4 (prX9_readLaw_4 n) u a0 x1 x2 h
def fX9_readLaw (u : Mm) (a0 : Nat) : Option (Unit × Mm) := rX9_readLaw_4 hwF u a0 ((-1)) 0
set_option maxRecDepth 100000 in
set_option maxHeartbeats 4000000 in
theorem tX9_readLaw {u : Mm} {a0 : Nat} {r : Unit} {u' : Mm} (h : fX9_readLaw u a0 = some (r, u')) : Ev 7 MX9_readLaw 0 0 [.ref a0] u (none, u') := by
  refine Ev.of (by decide +kernel) (Nat.le_of_ble_eq_true rfl) (show Eg MX9_readLaw 7 0 0 (none, u') 0 [(0, .ref a0)] [] u from ?_)
  unfold fX9_readLaw at h
  refine E_iconst (v := (-1)) dX9_readLaw_0 (by decide) ?_
  refine E_istore_n (l' := [(1, .int ((-1))), (0, .ref a0)]) dX9_readLaw_1 rfl (Nat.le_of_ble_eq_true rfl) rfl ?_
  refine E_iconst (v := 0) dX9_readLaw_2 (by decide) ?_
  refine E_istore_n (l' := [(2, .int 0), (1, .int ((-1))), (0, .ref a0)]) dX9_readLaw_3 rfl (Nat.le_of_ble_eq_true rfl) rfl ?_
  refine Eg.pick [2, 1, 0] rfl ?_
  exact prX9_readLaw_4 _ _ _ _ _ h
def bX9_law_146 (k146 : Mm → Nat → Int32 → Int32 → Option (Int32 × Mm)) (u : Mm) (a0 : Nat) (x1 : Int32) (x2 : Int32) : Option (Int32 × Mm) := oK u a0 9 54 (oI (mI u a0 23) (fun v16 => (if (v16 : Int32) ≤ x2 then oK u a0 9 54 (oNn (mR u a0 3) (fun e17 => oA u e17 10 2 (oI (mI u e17 (Int32.toNatClampNeg 2)) (fun v18 => oA u e17 10 2 (oU (wI u e17 (upd (mI u e17) (Int32.toNatClampNeg 2) (v18 + 1))) (fun u19 => oK u19 a0 9 54 (oNn (mR u19 a0 3) (fun e20 => oA u19 e20 10 2 (oI (mI u19 e20 (Int32.toNatClampNeg 2)) (fun v21 => oR u19 a0 9 (oB (fX9_answer u19 a0 (v21 - 1)) (fun v22 u23 => some (v22, u23))))))))))))) else oK u a0 9 54 (oNn (mR u a0 3) (fun e24 => oK u a0 9 54 (oNn (mR u a0 24) (fun e25 => oA u e25 10 x2 (oI (mI u e25 (Int32.toNatClampNeg x2)) (fun v26 => oA u e24 10 ((x1 + 98) + ((2 : Int32) * x2)) (oU (wI u e24 (upd (mI u e24) (Int32.toNatClampNeg ((x1 + 98) + ((2 : Int32) * x2))) v26)) (fun u27 => oK u27 a0 9 54 (oNn (mR u27 a0 3) (fun e28 => oK u27 a0 9 54 (oNn (mR u27 a0 25) (fun e29 => oA u27 e29 10 x2 (oI (mI u27 e29 (Int32.toNatClampNeg x2)) (fun v30 => oA u27 e28 10 (((x1 + 98) + ((2 : Int32) * x2)) + 1) (oU (wI u27 e28 (upd (mI u27 e28) (Int32.toNatClampNeg (((x1 + 98) + ((2 : Int32) * x2)) + 1)) v30)) (fun u31 => k146 u31 a0 x1 (x2 + 1))))))))))))))))))))
set_option maxRecDepth 100000 in
set_option maxHeartbeats 4000000 in
theorem pX9_law_146 {r : Int32} {u' : Mm} {k146 : Mm → Nat → Int32 → Int32 → Option (Int32 × Mm)} (hk146 : ∀ (u : Mm) (a0 : Nat) (x1 : Int32) (x2 : Int32), k146 u a0 x1 x2 = some (r, u') → Eg MX9_law 8 0 0 (some (.int r), u') 146 [(0, .ref a0), (1, .int x1), (2, .int x2)] [] u) (u : Mm) (a0 : Nat) (x1 : Int32) (x2 : Int32) (h : bX9_law_146 k146 u a0 x1 x2 = some (r, u')) : Eg MX9_law 8 0 0 (some (.int r), u') 146 [(0, .ref a0), (1, .int x1), (2, .int x2)] [] u := by
  unfold bX9_law_146 at h
  refine E_iload_n dX9_law_146 rfl rfl ?_
  refine E_aload_n dX9_law_147 rfl rfl ?_
  refine E_getI h dX9_law_148 cf9 lk_X9_258 (by decide) (fun _ _ _ => rfl) (fun h => ?_)
  refine E_oI h (fun v16 h => ?_)
  refine E_ic_ge (tgt := 200) h dX9_law_151 (by decide) (fun h => ?_) (fun h => ?_)
  · refine E_aload_n dX9_law_200 rfl rfl ?_
    refine E_getA h dX9_law_201 cf9 lk_X9_13 (by decide) (fun _ _ _ => rfl) (fun e17 h => ?_)
    refine E_iconst (v := 2) dX9_law_204 (by decide) ?_
    refine E_dup2 dX9_law_205 rfl rfl ?_
    refine E_iald h dX9_law_206 (fun h => ?_)
    refine E_oI h (fun v18 h => ?_)
    refine E_iconst (v := 1) dX9_law_207 (by decide) ?_
    refine E_iadd dX9_law_208 ?_
    refine E_iast h dX9_law_209 (fun h => ?_)
    refine E_oU h (fun u19 h => ?_)
    refine E_aload_n dX9_law_210 rfl rfl ?_
    refine E_aload_n dX9_law_211 rfl rfl ?_
    refine E_getA h dX9_law_212 cf9 lk_X9_13 (by decide) (fun _ _ _ => rfl) (fun e20 h => ?_)
    refine E_iconst (v := 2) dX9_law_215 (by decide) ?_
    refine E_iald h dX9_law_216 (fun h => ?_)
    refine E_oI h (fun v21 h => ?_)
    refine E_iconst (v := 1) dX9_law_217 (by decide) ?_
    refine E_isub dX9_law_218 ?_
    refine F_Vi h (fun a m e => tX9_answer e) dX9_law_219 hm_X9_answer hv_X9_answer ln_X9_143 rfl rfl (Nat.le_of_ble_eq_true rfl) (Nat.le_of_ble_eq_true rfl) (kc' := 0) (ks' := 0) rfl rfl (fun v22 u23 h => ?_)
    exact E_iret h dX9_law_222 rfl
  · refine E_aload_n dX9_law_154 rfl rfl ?_
    refine E_getA h dX9_law_155 cf9 lk_X9_13 (by decide) (fun _ _ _ => rfl) (fun e24 h => ?_)
    refine E_iload_n dX9_law_158 rfl rfl ?_
    refine E_bipush (v := 98) dX9_law_159 (by decide) ?_
    refine E_iadd dX9_law_161 ?_
    refine E_iconst (v := 2) dX9_law_162 (by decide) ?_
    refine E_iload_n dX9_law_163 rfl rfl ?_
    refine E_imul dX9_law_164 ?_
    refine E_iadd dX9_law_165 ?_
    refine E_aload_n dX9_law_166 rfl rfl ?_
    refine E_getA h dX9_law_167 cf9 lk_X9_45 (by decide) (fun _ _ _ => rfl) (fun e25 h => ?_)
    refine E_iload_n dX9_law_170 rfl rfl ?_
    refine E_iald h dX9_law_171 (fun h => ?_)
    refine E_oI h (fun v26 h => ?_)
    refine E_iast h dX9_law_172 (fun h => ?_)
    refine E_oU h (fun u27 h => ?_)
    refine E_aload_n dX9_law_173 rfl rfl ?_
    refine E_getA h dX9_law_174 cf9 lk_X9_13 (by decide) (fun _ _ _ => rfl) (fun e28 h => ?_)
    refine E_iload_n dX9_law_177 rfl rfl ?_
    refine E_bipush (v := 98) dX9_law_178 (by decide) ?_
    refine E_iadd dX9_law_180 ?_
    refine E_iconst (v := 2) dX9_law_181 (by decide) ?_
    refine E_iload_n dX9_law_182 rfl rfl ?_
    refine E_imul dX9_law_183 ?_
    refine E_iadd dX9_law_184 ?_
    refine E_iconst (v := 1) dX9_law_185 (by decide) ?_
    refine E_iadd dX9_law_186 ?_
    refine E_aload_n dX9_law_187 rfl rfl ?_
    refine E_getA h dX9_law_188 cf9 lk_X9_48 (by decide) (fun _ _ _ => rfl) (fun e29 h => ?_)
    refine E_iload_n dX9_law_191 rfl rfl ?_
    refine E_iald h dX9_law_192 (fun h => ?_)
    refine E_oI h (fun v30 h => ?_)
    refine E_iast h dX9_law_193 (fun h => ?_)
    refine E_oU h (fun u31 h => ?_)
    refine E_iinc (j := 2) (v := x2 + 1) (l' := [(2, .int (x2 + 1)), (0, .ref a0), (1, .int x1)]) dX9_law_194 rfl (addI (by decide)) (Nat.le_of_ble_eq_true rfl) rfl ?_
    refine E_goto (tgt := 146) dX9_law_197 (by decide) ?_
    refine Eg.pick [1, 2, 0] rfl ?_
    exact hk146 _ _ _ _ h
def rX9_law_146 : Nat → Mm → Nat → Int32 → Int32 → Option (Int32 × Mm)
  | 0, _, _, _, _ => none
  | n + 1, u, a0, x1, x2 => bX9_law_146 (rX9_law_146 n) u a0 x1 x2
theorem prX9_law_146 {r : Int32} {u' : Mm} : ∀ (n : Nat) (u : Mm) (a0 : Nat) (x1 : Int32) (x2 : Int32), rX9_law_146 n u a0 x1 x2 = some (r, u') → Eg MX9_law 8 0 0 (some (.int r), u') 146 [(0, .ref a0), (1, .int x1), (2, .int x2)] [] u
  | 0, _, _, _, _, h => by cases h
  | n + 1, u, a0, x1, x2, h => pX9_law_146 (prX9_law_146 n) u a0 x1 x2 h
def bX9_law_111 (k111 : Mm → Nat → Int32 → Int32 → Option (Int32 × Mm)) (u : Mm) (a0 : Nat) (x1 : Int32) (x2 : Int32) : Option (Int32 × Mm) := oK u a0 9 54 (oI (mI u a0 21) (fun v15 => (if ((8 : Int32) * v15 : Int32) ≤ x2 then rX9_law_146 hwF u a0 x1 0 else oK u a0 9 54 (oNn (mR u a0 3) (fun e32 => oK u a0 9 54 (oNn (mR u a0 22) (fun e33 => oA u e33 10 x2 (oI (mI u e33 (Int32.toNatClampNeg x2)) (fun v34 => oA u e32 10 ((x1 + 2) + x2) (oU (wI u e32 (upd (mI u e32) (Int32.toNatClampNeg ((x1 + 2) + x2)) v34)) (fun u35 => k111 u35 a0 x1 (x2 + 1))))))))))))
set_option maxRecDepth 100000 in
set_option maxHeartbeats 4000000 in
theorem pX9_law_111 {r : Int32} {u' : Mm} {k111 : Mm → Nat → Int32 → Int32 → Option (Int32 × Mm)} (hk111 : ∀ (u : Mm) (a0 : Nat) (x1 : Int32) (x2 : Int32), k111 u a0 x1 x2 = some (r, u') → Eg MX9_law 8 0 0 (some (.int r), u') 111 [(0, .ref a0), (1, .int x1), (2, .int x2)] [] u) (u : Mm) (a0 : Nat) (x1 : Int32) (x2 : Int32) (h : bX9_law_111 k111 u a0 x1 x2 = some (r, u')) : Eg MX9_law 8 0 0 (some (.int r), u') 111 [(0, .ref a0), (1, .int x1), (2, .int x2)] [] u := by
  unfold bX9_law_111 at h
  refine E_iload_n dX9_law_111 rfl rfl ?_
  refine E_bipush (v := 8) dX9_law_112 (by decide) ?_
  refine E_aload_n dX9_law_114 rfl rfl ?_
  refine E_getI h dX9_law_115 cf9 lk_X9_348 (by decide) (fun _ _ _ => rfl) (fun h => ?_)
  refine E_oI h (fun v15 h => ?_)
  refine E_imul dX9_law_118 ?_
  refine E_ic_ge (tgt := 144) h dX9_law_119 (by decide) (fun h => ?_) (fun h => ?_)
  · refine E_iconst (v := 0) dX9_law_144 (by decide) ?_
    refine E_istore_n (l' := [(2, .int 0), (0, .ref a0), (1, .int x1)]) dX9_law_145 rfl (Nat.le_of_ble_eq_true rfl) rfl ?_
    refine Eg.pick [1, 2, 0] rfl ?_
    exact prX9_law_146 _ _ _ _ _ h
  · refine E_aload_n dX9_law_122 rfl rfl ?_
    refine E_getA h dX9_law_123 cf9 lk_X9_13 (by decide) (fun _ _ _ => rfl) (fun e32 h => ?_)
    refine E_iload_n dX9_law_126 rfl rfl ?_
    refine E_iconst (v := 2) dX9_law_127 (by decide) ?_
    refine E_iadd dX9_law_128 ?_
    refine E_iload_n dX9_law_129 rfl rfl ?_
    refine E_iadd dX9_law_130 ?_
    refine E_aload_n dX9_law_131 rfl rfl ?_
    refine E_getA h dX9_law_132 cf9 lk_X9_42 (by decide) (fun _ _ _ => rfl) (fun e33 h => ?_)
    refine E_iload_n dX9_law_135 rfl rfl ?_
    refine E_iald h dX9_law_136 (fun h => ?_)
    refine E_oI h (fun v34 h => ?_)
    refine E_iast h dX9_law_137 (fun h => ?_)
    refine E_oU h (fun u35 h => ?_)
    refine E_iinc (j := 2) (v := x2 + 1) (l' := [(2, .int (x2 + 1)), (0, .ref a0), (1, .int x1)]) dX9_law_138 rfl (addI (by decide)) (Nat.le_of_ble_eq_true rfl) rfl ?_
    refine E_goto (tgt := 111) dX9_law_141 (by decide) ?_
    refine Eg.pick [1, 2, 0] rfl ?_
    exact hk111 _ _ _ _ h
def rX9_law_111 : Nat → Mm → Nat → Int32 → Int32 → Option (Int32 × Mm)
  | 0, _, _, _, _ => none
  | n + 1, u, a0, x1, x2 => bX9_law_111 (rX9_law_111 n) u a0 x1 x2
theorem prX9_law_111 {r : Int32} {u' : Mm} : ∀ (n : Nat) (u : Mm) (a0 : Nat) (x1 : Int32) (x2 : Int32), rX9_law_111 n u a0 x1 x2 = some (r, u') → Eg MX9_law 8 0 0 (some (.int r), u') 111 [(0, .ref a0), (1, .int x1), (2, .int x2)] [] u
  | 0, _, _, _, _, h => by cases h
  | n + 1, u, a0, x1, x2, h => pX9_law_111 (prX9_law_111 n) u a0 x1 x2 h
def bX9_law_64 (u : Mm) (a0 : Nat) : Option (Int32 × Mm) := oR u a0 9 (oB (fX9_endText u a0) (fun _ u7 => oK u7 a0 9 54 (oI (mI u7 a0 19) (fun v8 => (if (v8 : Int32) = 0 then oK u7 a0 9 54 (oNn (mR u7 a0 3) (fun e9 => oA u7 e9 10 2 (oI (mI u7 e9 (Int32.toNatClampNeg 2)) (fun v10 => oI ((130 : Int32) + ((900 : Int32) * v10)) (fun v11 => oK u7 a0 9 54 (oNn (mR u7 a0 3) (fun e12 => oK u7 a0 9 54 (oI (mI u7 a0 21) (fun v13 => oA u7 e12 10 (v11 + 1) (oU (wI u7 e12 (upd (mI u7 e12) (Int32.toNatClampNeg (v11 + 1)) v13)) (fun u14 => rX9_law_111 hwF u14 a0 v11 0))))))))))) else oR u7 a0 9 (oB (fX9_answer u7 a0 ((-6))) (fun v36 u37 => some (v36, u37))))))))
set_option maxRecDepth 100000 in
set_option maxHeartbeats 4000000 in
theorem pX9_law_64 {r : Int32} {u' : Mm} (u : Mm) (a0 : Nat) (h : bX9_law_64 u a0 = some (r, u')) : Eg MX9_law 8 0 0 (some (.int r), u') 64 [(0, .ref a0)] [] u := by
  unfold bX9_law_64 at h
  refine E_aload_n dX9_law_64 rfl rfl ?_
  refine F_Vv h (fun m e => tX9_endText e) dX9_law_65 hm_X9_endText hv_X9_endText ln_X9_362 rfl rfl (Nat.le_of_ble_eq_true rfl) (Nat.le_of_ble_eq_true rfl) (kc' := 0) (ks' := 0) rfl rfl (fun u7 h => ?_)
  refine E_aload_n dX9_law_68 rfl rfl ?_
  refine E_getI h dX9_law_69 cf9 lk_X9_223 (by decide) (fun _ _ _ => rfl) (fun h => ?_)
  refine E_oI h (fun v8 h => ?_)
  refine E_if_eq (tgt := 82) h dX9_law_72 (by decide) (fun h => ?_) (fun h => ?_)
  · refine E_sipush (v := 130) dX9_law_82 (by decide) ?_
    refine E_sipush (v := 900) dX9_law_85 (by decide) ?_
    refine E_aload_n dX9_law_88 rfl rfl ?_
    refine E_getA h dX9_law_89 cf9 lk_X9_13 (by decide) (fun _ _ _ => rfl) (fun e9 h => ?_)
    refine E_iconst (v := 2) dX9_law_92 (by decide) ?_
    refine E_iald h dX9_law_93 (fun h => ?_)
    refine E_oI h (fun v10 h => ?_)
    refine E_imul dX9_law_94 ?_
    refine E_iadd dX9_law_95 ?_
    refine E_oI h (fun v11 h => ?_)
    refine E_istore_n (l' := [(1, .int v11), (0, .ref a0)]) dX9_law_96 rfl (Nat.le_of_ble_eq_true rfl) rfl ?_
    refine E_aload_n dX9_law_97 rfl rfl ?_
    refine E_getA h dX9_law_98 cf9 lk_X9_13 (by decide) (fun _ _ _ => rfl) (fun e12 h => ?_)
    refine E_iload_n dX9_law_101 rfl rfl ?_
    refine E_iconst (v := 1) dX9_law_102 (by decide) ?_
    refine E_iadd dX9_law_103 ?_
    refine E_aload_n dX9_law_104 rfl rfl ?_
    refine E_getI h dX9_law_105 cf9 lk_X9_348 (by decide) (fun _ _ _ => rfl) (fun h => ?_)
    refine E_oI h (fun v13 h => ?_)
    refine E_iast h dX9_law_108 (fun h => ?_)
    refine E_oU h (fun u14 h => ?_)
    refine E_iconst (v := 0) dX9_law_109 (by decide) ?_
    refine E_istore_n (l' := [(2, .int 0), (1, .int v11), (0, .ref a0)]) dX9_law_110 rfl (Nat.le_of_ble_eq_true rfl) rfl ?_
    refine Eg.pick [2, 1, 0] rfl ?_
    exact prX9_law_111 _ _ _ _ _ h
  · refine E_aload_n dX9_law_75 rfl rfl ?_
    refine E_bipush (v := (-6)) dX9_law_76 (by decide) ?_
    refine F_Vi h (fun a m e => tX9_answer e) dX9_law_78 hm_X9_answer hv_X9_answer ln_X9_143 rfl rfl (Nat.le_of_ble_eq_true rfl) (Nat.le_of_ble_eq_true rfl) (kc' := 0) (ks' := 0) rfl rfl (fun v36 u37 h => ?_)
    exact E_iret h dX9_law_81 rfl
def bX9_law_37 (k37 : Mm → Nat → Option (Int32 × Mm)) (u : Mm) (a0 : Nat) : Option (Int32 × Mm) := oK u a0 9 54 (oI (mI u a0 19) (fun v6 => (if (v6 : Int32) = 0 then oR u a0 9 (oB (fX9_isSign u a0 59) (fun v38 u39 => (if (v38 : Int32) = 0 then bX9_law_64 u39 a0 else oR u39 a0 9 (oB (fX9_next u39 a0) (fun _ u40 => oR u40 a0 9 (oB (fX9_readLaw u40 a0) (fun _ u41 => k37 u41 a0))))))) else bX9_law_64 u a0)))
set_option maxRecDepth 100000 in
set_option maxHeartbeats 4000000 in
theorem pX9_law_37 {r : Int32} {u' : Mm} {k37 : Mm → Nat → Option (Int32 × Mm)} (hk37 : ∀ (u : Mm) (a0 : Nat), k37 u a0 = some (r, u') → Eg MX9_law 8 0 0 (some (.int r), u') 37 [(0, .ref a0)] [] u) (u : Mm) (a0 : Nat) (h : bX9_law_37 k37 u a0 = some (r, u')) : Eg MX9_law 8 0 0 (some (.int r), u') 37 [(0, .ref a0)] [] u := by
  unfold bX9_law_37 at h
  refine E_aload_n dX9_law_37 rfl rfl ?_
  refine E_getI h dX9_law_38 cf9 lk_X9_223 (by decide) (fun _ _ _ => rfl) (fun h => ?_)
  refine E_oI h (fun v6 h => ?_)
  refine E_if_ne (tgt := 64) h dX9_law_41 (by decide) (fun h => ?_) (fun h => ?_)
  · refine Eg.pick [0] rfl ?_
    exact pX9_law_64 _ _ h
  · refine E_aload_n dX9_law_44 rfl rfl ?_
    refine E_bipush (v := 59) dX9_law_45 (by decide) ?_
    refine F_Vi h (fun a m e => tX9_isSign e) dX9_law_47 hm_X9_isSign hv_X9_isSign ln_X9_290 rfl rfl (Nat.le_of_ble_eq_true rfl) (Nat.le_of_ble_eq_true rfl) (kc' := 0) (ks' := 0) rfl rfl (fun v38 u39 h => ?_)
    refine E_if_eq (tgt := 64) h dX9_law_50 (by decide) (fun h => ?_) (fun h => ?_)
    · refine Eg.pick [0] rfl ?_
      exact pX9_law_64 _ _ h
    · refine E_aload_n dX9_law_53 rfl rfl ?_
      refine F_Vv h (fun m e => tX9_next e) dX9_law_54 hm_X9_next hv_X9_next ln_X9_227 rfl rfl (Nat.le_of_ble_eq_true rfl) (Nat.le_of_ble_eq_true rfl) (kc' := 0) (ks' := 0) rfl rfl (fun u40 h => ?_)
      refine E_aload_n dX9_law_57 rfl rfl ?_
      refine F_Vv h (fun m e => tX9_readLaw e) dX9_law_58 hm_X9_readLaw hv_X9_readLaw ln_X9_359 rfl rfl (Nat.le_of_ble_eq_true rfl) (Nat.le_of_ble_eq_true rfl) (kc' := 0) (ks' := 0) rfl rfl (fun u41 h => ?_)
      refine E_goto (tgt := 37) dX9_law_61 (by decide) ?_
      refine Eg.pick [0] rfl ?_
      exact hk37 _ _ h
def rX9_law_37 : Nat → Mm → Nat → Option (Int32 × Mm)
  | 0, _, _ => none
  | n + 1, u, a0 => bX9_law_37 (rX9_law_37 n) u a0
theorem prX9_law_37 {r : Int32} {u' : Mm} : ∀ (n : Nat) (u : Mm) (a0 : Nat), rX9_law_37 n u a0 = some (r, u') → Eg MX9_law 8 0 0 (some (.int r), u') 37 [(0, .ref a0)] [] u
  | 0, _, _, h => by cases h
  | n + 1, u, a0, h => pX9_law_37 (prX9_law_37 n) u a0 h
def fX9_law (u : Mm) (a0 : Nat) : Option (Int32 × Mm) := oK u a0 9 54 (oU (wI u a0 (upd (mI u a0) 0 0)) (fun u1 => oK u1 a0 9 54 (oNn (mR u1 a0 3) (fun e2 => oA u1 e2 10 2 (oI (mI u1 e2 (Int32.toNatClampNeg 2)) (fun v3 => (if (v3 : Int32) = 6 then oK u1 a0 9 54 (oU (wI u1 a0 (upd (mI u1 a0) 13 0)) (fun u42 => oR u42 a0 9 (oB (fX9_answer u42 a0 ((-5))) (fun v43 u44 => some (v43, u44))))) else oR u1 a0 9 (oB (fX9_beginText u1 a0 0) (fun _ u4 => oR u4 a0 9 (oB (fX9_readLaw u4 a0) (fun _ u5 => rX9_law_37 hwF u5 a0)))))))))))
set_option maxRecDepth 100000 in
set_option maxHeartbeats 4000000 in
theorem tX9_law {u : Mm} {a0 : Nat} {r : Int32} {u' : Mm} (h : fX9_law u a0 = some (r, u')) : Ev 8 MX9_law 0 0 [.ref a0] u (some (.int r), u') := by
  refine Ev.of (by decide +kernel) (Nat.le_of_ble_eq_true rfl) (show Eg MX9_law 8 0 0 (some (.int r), u') 0 [(0, .ref a0)] [] u from ?_)
  unfold fX9_law at h
  refine E_aload_n dX9_law_0 rfl rfl ?_
  refine E_iconst (v := 0) dX9_law_1 (by decide) ?_
  refine E_putI h dX9_law_2 cf9 lk_X9_134 (by decide) (Or.inl rfl) rfl (fun h => ?_)
  refine E_oU h (fun u1 h => ?_)
  refine E_aload_n dX9_law_5 rfl rfl ?_
  refine E_getA h dX9_law_6 cf9 lk_X9_13 (by decide) (fun _ _ _ => rfl) (fun e2 h => ?_)
  refine E_iconst (v := 2) dX9_law_9 (by decide) ?_
  refine E_iald h dX9_law_10 (fun h => ?_)
  refine E_oI h (fun v3 h => ?_)
  refine E_bipush (v := 6) dX9_law_11 (by decide) ?_
  refine E_ic_ne (tgt := 28) h dX9_law_13 (by decide) (fun h => ?_) (fun h => ?_)
  · refine E_aload_n dX9_law_28 rfl rfl ?_
    refine E_iconst (v := 0) dX9_law_29 (by decide) ?_
    refine F_Vv h (fun m e => tX9_beginText e) dX9_law_30 hm_X9_beginText hv_X9_beginText ln_X9_356 rfl rfl (Nat.le_of_ble_eq_true rfl) (Nat.le_of_ble_eq_true rfl) (kc' := 0) (ks' := 0) rfl rfl (fun u4 h => ?_)
    refine E_aload_n dX9_law_33 rfl rfl ?_
    refine F_Vv h (fun m e => tX9_readLaw e) dX9_law_34 hm_X9_readLaw hv_X9_readLaw ln_X9_359 rfl rfl (Nat.le_of_ble_eq_true rfl) (Nat.le_of_ble_eq_true rfl) (kc' := 0) (ks' := 0) rfl rfl (fun u5 h => ?_)
    refine Eg.pick [0] rfl ?_
    exact prX9_law_37 _ _ _ h
  · refine E_aload_n dX9_law_16 rfl rfl ?_
    refine E_iconst (v := 0) dX9_law_17 (by decide) ?_
    refine E_putI h dX9_law_18 cf9 lk_X9_211 (by decide) (Or.inl rfl) rfl (fun h => ?_)
    refine E_oU h (fun u42 h => ?_)
    refine E_aload_n dX9_law_21 rfl rfl ?_
    refine E_bipush (v := (-5)) dX9_law_22 (by decide) ?_
    refine F_Vi h (fun a m e => tX9_answer e) dX9_law_24 hm_X9_answer hv_X9_answer ln_X9_143 rfl rfl (Nat.le_of_ble_eq_true rfl) (Nat.le_of_ble_eq_true rfl) (kc' := 0) (ks' := 0) rfl rfl (fun v43 u44 h => ?_)
    exact E_iret h dX9_law_27 rfl
def bX9_isLaw_28 (u : Mm) (s0 : Int32) : Option (Int32 × Mm) := oZ s0 (some (s0, u))
set_option maxRecDepth 100000 in
set_option maxHeartbeats 4000000 in
theorem pX9_isLaw_28 {r : Int32} {u' : Mm} (u : Mm) (s0 : Int32) (h : bX9_isLaw_28 u s0 = some (r, u')) : Eg MX9_isLaw 1 0 0 (some (.int r), u') 28 [] [.int s0] u := by
  unfold bX9_isLaw_28 at h
  exact E_zret h dX9_isLaw_28 rfl
def bX9_isLaw_23 (u : Mm) : Option (Int32 × Mm) := bX9_isLaw_28 u 1
set_option maxRecDepth 100000 in
set_option maxHeartbeats 4000000 in
theorem pX9_isLaw_23 {r : Int32} {u' : Mm} (u : Mm) (h : bX9_isLaw_23 u = some (r, u')) : Eg MX9_isLaw 1 0 0 (some (.int r), u') 23 [] [] u := by
  unfold bX9_isLaw_23 at h
  refine E_iconst (v := 1) dX9_isLaw_23 (by decide) ?_
  refine E_goto (tgt := 28) dX9_isLaw_24 (by decide) ?_
  refine Eg.pick [] rfl ?_
  exact pX9_isLaw_28 _ _ h
def fX9_isLaw (u : Mm) (a0 : Nat) (x1 : Int32) : Option (Int32 × Mm) := (if (x1 : Int32) = ((-1)) then bX9_isLaw_23 u else oK u a0 9 54 (oNn (mR u a0 3) (fun e1 => oA u e1 10 2 (oI (mI u e1 (Int32.toNatClampNeg 2)) (fun v2 => oB (fX9_in u (Int32.toInt64 x1) 0 ((Int32.toInt64 v2) - 1)) (fun v3 u4 => (if (v3 : Int32) = 0 then bX9_isLaw_28 u4 0 else bX9_isLaw_23 u4)))))))
set_option maxRecDepth 100000 in
set_option maxHeartbeats 4000000 in
theorem tX9_isLaw {u : Mm} {a0 : Nat} {x1 : Int32} {r : Int32} {u' : Mm} (h : fX9_isLaw u a0 x1 = some (r, u')) : Ev 1 MX9_isLaw 0 0 [.ref a0, .int x1] u (some (.int r), u') := by
  refine Ev.of (by decide +kernel) (Nat.le_of_ble_eq_true rfl) (show Eg MX9_isLaw 1 0 0 (some (.int r), u') 0 [(0, .ref a0), (1, .int x1)] [] u from ?_)
  unfold fX9_isLaw at h
  refine E_iload_n dX9_isLaw_0 rfl rfl ?_
  refine E_iconst (v := (-1)) dX9_isLaw_1 (by decide) ?_
  refine E_ic_eq (tgt := 23) h dX9_isLaw_2 (by decide) (fun h => ?_) (fun h => ?_)
  · refine Eg.pick [] rfl ?_
    exact pX9_isLaw_23 _  h
  · refine E_iload_n dX9_isLaw_5 rfl rfl ?_
    refine E_i2l dX9_isLaw_6 ?_
    refine E_lconst (v := 0) dX9_isLaw_7 (by decide) ?_
    refine E_aload_n dX9_isLaw_8 rfl rfl ?_
    refine E_getA h dX9_isLaw_9 cf9 lk_X9_13 (by decide) (fun _ _ _ => rfl) (fun e1 h => ?_)
    refine E_iconst (v := 2) dX9_isLaw_12 (by decide) ?_
    refine E_iald h dX9_isLaw_13 (fun h => ?_)
    refine E_oI h (fun v2 h => ?_)
    refine E_i2l dX9_isLaw_14 ?_
    refine E_lconst (v := 1) dX9_isLaw_15 (by decide) ?_
    refine E_lsub dX9_isLaw_16 ?_
    refine F_Si h (fun a m e => tX9_in e) dX9_isLaw_17 hm_X9_in hs_X9_in ln_X9_154 rfl rfl (Nat.le_of_ble_eq_true rfl) (Nat.le_of_ble_eq_true rfl) (kc' := 0) (ks' := 0) rfl rfl (fun v3 u4 h => ?_)
    refine E_if_eq (tgt := 27) h dX9_isLaw_20 (by decide) (fun h => ?_) (fun h => ?_)
    · refine E_iconst (v := 0) dX9_isLaw_27 (by decide) ?_
      refine Eg.pick [] rfl ?_
      exact pX9_isLaw_28 _ _ h
    · refine Eg.pick [] rfl ?_
      exact pX9_isLaw_23 _  h
