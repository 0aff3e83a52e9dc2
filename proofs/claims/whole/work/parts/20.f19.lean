/-! ===== methods as functions, with their contracts (printed by program) ===== -/
def bX9_force_28 (u : Mm) (s0 : Int32) : Option (Int32 × Mm) := some (s0, u)
set_option maxRecDepth 100000 in
set_option maxHeartbeats 4000000 in
theorem pX9_force_28 {r : Int32} {u' : Mm} (u : Mm) (s0 : Int32) (h : bX9_force_28 u s0 = some (r, u')) : Eg MX9_force 2 0 0 (some (.int r), u') 28 [] [.int s0] u := by
  unfold bX9_force_28 at h
  exact E_iret h dX9_force_28 rfl
def fX9_force (u : Mm) (a0 : Nat) (x1 : Int32) : Option (Int32 × Mm) := oK u a0 9 54 (oU (wI u a0 (upd (mI u a0) 0 0)) (fun u1 => oR u1 a0 9 (oB (fX9_isLaw u1 a0 x1) (fun v2 u3 => (if (v2 : Int32) = 0 then oR u3 a0 9 (oB (fX9_answer u3 a0 ((-2))) (fun v4 u5 => bX9_force_28 u5 v4)) else oR u3 a0 9 (oB (fX9_change u3 a0 3 x1) (fun v6 u7 => bX9_force_28 u7 v6)))))))
set_option maxRecDepth 100000 in
set_option maxHeartbeats 4000000 in
theorem tX9_force {u : Mm} {a0 : Nat} {x1 : Int32} {r : Int32} {u' : Mm} (h : fX9_force u a0 x1 = some (r, u')) : Ev 2 MX9_force 0 0 [.ref a0, .int x1] u (some (.int r), u') := by
  refine Ev.of (by decide +kernel) (Nat.le_of_ble_eq_true rfl) (show Eg MX9_force 2 0 0 (some (.int r), u') 0 [(0, .ref a0), (1, .int x1)] [] u from ?_)
  unfold fX9_force at h
  refine E_aload_n dX9_force_0 rfl rfl ?_
  refine E_iconst (v := 0) dX9_force_1 (by decide) ?_
  refine E_putI h dX9_force_2 cf9 lk_X9_134 (by decide) (Or.inl rfl) rfl (fun h => ?_)
  refine E_oU h (fun u1 h => ?_)
  refine E_aload_n dX9_force_5 rfl rfl ?_
  refine E_iload_n dX9_force_6 rfl rfl ?_
  refine F_Vi h (fun a m e => tX9_isLaw e) dX9_force_7 hm_X9_isLaw hv_X9_isLaw ln_X9_365 rfl rfl (Nat.le_of_ble_eq_true rfl) (Nat.le_of_ble_eq_true rfl) (kc' := 0) (ks' := 0) rfl rfl (fun v2 u3 h => ?_)
  refine E_if_eq (tgt := 22) h dX9_force_10 (by decide) (fun h => ?_) (fun h => ?_)
  · refine E_aload_n dX9_force_22 rfl rfl ?_
    refine E_bipush (v := (-2)) dX9_force_23 (by decide) ?_
    refine F_Vi h (fun a m e => tX9_answer e) dX9_force_25 hm_X9_answer hv_X9_answer ln_X9_143 rfl rfl (Nat.le_of_ble_eq_true rfl) (Nat.le_of_ble_eq_true rfl) (kc' := 0) (ks' := 0) rfl rfl (fun v4 u5 h => ?_)
    refine Eg.pick [] rfl ?_
    exact pX9_force_28 _ _ h
  · refine E_aload_n dX9_force_13 rfl rfl ?_
    refine E_iconst (v := 3) dX9_force_14 (by decide) ?_
    refine E_iload_n dX9_force_15 rfl rfl ?_
    refine F_Vi h (fun a m e => tX9_change e) dX9_force_16 hm_X9_change hv_X9_change ln_X9_176 rfl rfl (Nat.le_of_ble_eq_true rfl) (Nat.le_of_ble_eq_true rfl) (kc' := 0) (ks' := 0) rfl rfl (fun v6 u7 h => ?_)
    refine E_goto (tgt := 28) dX9_force_19 (by decide) ?_
    refine Eg.pick [] rfl ?_
    exact pX9_force_28 _ _ h
def bX9_canAttack_41 (u : Mm) (s0 : Int32) : Option (Int32 × Mm) := oZ s0 (some (s0, u))
set_option maxRecDepth 100000 in
set_option maxHeartbeats 4000000 in
theorem pX9_canAttack_41 {r : Int32} {u' : Mm} (u : Mm) (s0 : Int32) (h : bX9_canAttack_41 u s0 = some (r, u')) : Eg MX9_canAttack 5 0 0 (some (.int r), u') 41 [] [.int s0] u := by
  unfold bX9_canAttack_41 at h
  exact E_zret h dX9_canAttack_41 rfl
def fX9_canAttack (u : Mm) (a0 : Nat) (x1 : Int32) (x2 : Int32) : Option (Int32 × Mm) := oR u a0 9 (oB (fX9_isBarred u a0 x1 x2) (fun v1 u2 => (if (v1 : Int32) = 0 then oK u2 a0 9 54 (oNn (mR u2 a0 3) (fun e3 => oA u2 e3 10 ((31 : Int32) + x1) (oI (mI u2 e3 (Int32.toNatClampNeg ((31 : Int32) + x1))) (fun v4 => oR u2 a0 9 (oB (fX9_costsOf u2 a0 x1 x2) (fun v5 u6 => (if (v4 : Int32) < v5 then bX9_canAttack_41 u6 0 else oR u6 a0 9 (oB (fX9_menOf u6 a0 x1 x2) (fun v7 u8 => (if (v7 : Int32) ≤ 0 then bX9_canAttack_41 u8 0 else bX9_canAttack_41 u8 1)))))))))) else bX9_canAttack_41 u2 0)))
set_option maxRecDepth 100000 in
set_option maxHeartbeats 4000000 in
theorem tX9_canAttack {u : Mm} {a0 : Nat} {x1 : Int32} {x2 : Int32} {r : Int32} {u' : Mm} (h : fX9_canAttack u a0 x1 x2 = some (r, u')) : Ev 5 MX9_canAttack 0 0 [.ref a0, .int x1, .int x2] u (some (.int r), u') := by
  refine Ev.of (by decide +kernel) (Nat.le_of_ble_eq_true rfl) (show Eg MX9_canAttack 5 0 0 (some (.int r), u') 0 [(0, .ref a0), (1, .int x1), (2, .int x2)] [] u from ?_)
  unfold fX9_canAttack at h
  refine E_aload_n dX9_canAttack_0 rfl rfl ?_
  refine E_iload_n dX9_canAttack_1 rfl rfl ?_
  refine E_iload_n dX9_canAttack_2 rfl rfl ?_
  refine F_Vi h (fun a m e => tX9_isBarred e) dX9_canAttack_3 hm_X9_isBarred hv_X9_isBarred ln_X9_182 rfl rfl (Nat.le_of_ble_eq_true rfl) (Nat.le_of_ble_eq_true rfl) (kc' := 0) (ks' := 0) rfl rfl (fun v1 u2 h => ?_)
  refine E_if_ne (tgt := 40) h dX9_canAttack_6 (by decide) (fun h => ?_) (fun h => ?_)
  · refine E_iconst (v := 0) dX9_canAttack_40 (by decide) ?_
    refine Eg.pick [] rfl ?_
    exact pX9_canAttack_41 _ _ h
  · refine E_aload_n dX9_canAttack_9 rfl rfl ?_
    refine E_getA h dX9_canAttack_10 cf9 lk_X9_13 (by decide) (fun _ _ _ => rfl) (fun e3 h => ?_)
    refine E_bipush (v := 31) dX9_canAttack_13 (by decide) ?_
    refine E_iload_n dX9_canAttack_15 rfl rfl ?_
    refine E_iadd dX9_canAttack_16 ?_
    refine E_iald h dX9_canAttack_17 (fun h => ?_)
    refine E_oI h (fun v4 h => ?_)
    refine E_aload_n dX9_canAttack_18 rfl rfl ?_
    refine E_iload_n dX9_canAttack_19 rfl rfl ?_
    refine E_iload_n dX9_canAttack_20 rfl rfl ?_
    refine F_Vi h (fun a m e => tX9_costsOf e) dX9_canAttack_21 hm_X9_costsOf hv_X9_costsOf ln_X9_179 rfl rfl (Nat.le_of_ble_eq_true rfl) (Nat.le_of_ble_eq_true rfl) (kc' := 0) (ks' := 0) rfl rfl (fun v5 u6 h => ?_)
    refine E_ic_lt (tgt := 40) h dX9_canAttack_24 (by decide) (fun h => ?_) (fun h => ?_)
    · refine E_iconst (v := 0) dX9_canAttack_40 (by decide) ?_
      refine Eg.pick [] rfl ?_
      exact pX9_canAttack_41 _ _ h
    · refine E_aload_n dX9_canAttack_27 rfl rfl ?_
      refine E_iload_n dX9_canAttack_28 rfl rfl ?_
      refine E_iload_n dX9_canAttack_29 rfl rfl ?_
      refine F_Vi h (fun a m e => tX9_menOf e) dX9_canAttack_30 hm_X9_menOf hv_X9_menOf ln_X9_163 rfl rfl (Nat.le_of_ble_eq_true rfl) (Nat.le_of_ble_eq_true rfl) (kc' := 0) (ks' := 0) rfl rfl (fun v7 u8 h => ?_)
      refine E_if_le (tgt := 40) h dX9_canAttack_33 (by decide) (fun h => ?_) (fun h => ?_)
      · refine E_iconst (v := 0) dX9_canAttack_40 (by decide) ?_
        refine Eg.pick [] rfl ?_
        exact pX9_canAttack_41 _ _ h
      · refine E_iconst (v := 1) dX9_canAttack_36 (by decide) ?_
        refine E_goto (tgt := 41) dX9_canAttack_37 (by decide) ?_
        refine Eg.pick [] rfl ?_
        exact pX9_canAttack_41 _ _ h
def bX9_canGoOn_44 (u : Mm) (s0 : Int32) : Option (Int32 × Mm) := oZ s0 (some (s0, u))
set_option maxRecDepth 100000 in
set_option maxHeartbeats 4000000 in
theorem pX9_canGoOn_44 {r : Int32} {u' : Mm} (u : Mm) (s0 : Int32) (h : bX9_canGoOn_44 u s0 = some (r, u')) : Eg MX9_canGoOn 0 0 0 (some (.int r), u') 44 [] [.int s0] u := by
  unfold bX9_canGoOn_44 at h
  exact E_zret h dX9_canGoOn_44 rfl
def fX9_canGoOn (u : Mm) (a0 : Nat) (x1 : Int32) (x2 : Int32) : Option (Int32 × Mm) := (if (x1 : Int32) = 0 then oK u a0 9 54 (oNn (mR u a0 3) (fun e3 => oA u e3 10 ((7 : Int32) + x2) (oI (mI u e3 (Int32.toNatClampNeg ((7 : Int32) + x2))) (fun v4 => (if (3 : Int32) ≤ v4 then bX9_canGoOn_44 u 0 else bX9_canGoOn_44 u 1))))) else oK u a0 9 54 (oNn (mR u a0 3) (fun e1 => oA u e1 10 ((7 : Int32) + x2) (oI (mI u e1 (Int32.toNatClampNeg ((7 : Int32) + x2))) (fun v2 => (if (v2 : Int32) ≤ ((-3)) then bX9_canGoOn_44 u 0 else bX9_canGoOn_44 u 1))))))
set_option maxRecDepth 100000 in
set_option maxHeartbeats 4000000 in
theorem tX9_canGoOn {u : Mm} {a0 : Nat} {x1 : Int32} {x2 : Int32} {r : Int32} {u' : Mm} (h : fX9_canGoOn u a0 x1 x2 = some (r, u')) : Ev 0 MX9_canGoOn 0 0 [.ref a0, .int x1, .int x2] u (some (.int r), u') := by
  refine Ev.of (by decide +kernel) (Nat.le_of_ble_eq_true rfl) (show Eg MX9_canGoOn 0 0 0 (some (.int r), u') 0 [(0, .ref a0), (1, .int x1), (2, .int x2)] [] u from ?_)
  unfold fX9_canGoOn at h
  refine E_iload_n dX9_canGoOn_0 rfl rfl ?_
  refine E_if_ne (tgt := 25) h dX9_canGoOn_1 (by decide) (fun h => ?_) (fun h => ?_)
  · refine E_aload_n dX9_canGoOn_25 rfl rfl ?_
    refine E_getA h dX9_canGoOn_26 cf9 lk_X9_13 (by decide) (fun _ _ _ => rfl) (fun e1 h => ?_)
    refine E_bipush (v := 7) dX9_canGoOn_29 (by decide) ?_
    refine E_iload_n dX9_canGoOn_31 rfl rfl ?_
    refine E_iadd dX9_canGoOn_32 ?_
    refine E_iald h dX9_canGoOn_33 (fun h => ?_)
    refine E_oI h (fun v2 h => ?_)
    refine E_bipush (v := (-3)) dX9_canGoOn_34 (by decide) ?_
    refine E_ic_le (tgt := 43) h dX9_canGoOn_36 (by decide) (fun h => ?_) (fun h => ?_)
    · refine E_iconst (v := 0) dX9_canGoOn_43 (by decide) ?_
      refine Eg.pick [] rfl ?_
      exact pX9_canGoOn_44 _ _ h
    · refine E_iconst (v := 1) dX9_canGoOn_39 (by decide) ?_
      refine E_goto (tgt := 44) dX9_canGoOn_40 (by decide) ?_
      refine Eg.pick [] rfl ?_
      exact pX9_canGoOn_44 _ _ h
  · refine E_aload_n dX9_canGoOn_4 rfl rfl ?_
    refine E_getA h dX9_canGoOn_5 cf9 lk_X9_13 (by decide) (fun _ _ _ => rfl) (fun e3 h => ?_)
    refine E_bipush (v := 7) dX9_canGoOn_8 (by decide) ?_
    refine E_iload_n dX9_canGoOn_10 rfl rfl ?_
    refine E_iadd dX9_canGoOn_11 ?_
    refine E_iald h dX9_canGoOn_12 (fun h => ?_)
    refine E_oI h (fun v4 h => ?_)
    refine E_iconst (v := 3) dX9_canGoOn_13 (by decide) ?_
    refine E_ic_ge (tgt := 21) h dX9_canGoOn_14 (by decide) (fun h => ?_) (fun h => ?_)
    · refine E_iconst (v := 0) dX9_canGoOn_21 (by decide) ?_
      refine E_goto (tgt := 44) dX9_canGoOn_22 (by decide) ?_
      refine Eg.pick [] rfl ?_
      exact pX9_canGoOn_44 _ _ h
    · refine E_iconst (v := 1) dX9_canGoOn_17 (by decide) ?_
      refine E_goto (tgt := 44) dX9_canGoOn_18 (by decide) ?_
      refine Eg.pick [] rfl ?_
      exact pX9_canGoOn_44 _ _ h
def bX9_attackIt_141 (u : Mm) (s0 : Int32) : Option (Int32 × Mm) := some (s0, u)
set_option maxRecDepth 100000 in
set_option maxHeartbeats 4000000 in
theorem pX9_attackIt_141 {r : Int32} {u' : Mm} (u : Mm) (s0 : Int32) (h : bX9_attackIt_141 u s0 = some (r, u')) : Eg MX9_attackIt 5 0 0 (some (.int r), u') 141 [] [.int s0] u := by
  unfold bX9_attackIt_141 at h
  exact E_iret h dX9_attackIt_141 rfl
def bX9_attackIt_129 (u : Mm) (x4 : Int32) (s0 : Int32) (s1 : Int32) (s2 : Int32) (s3 : Nat) : Option (Int32 × Mm) := oA u s3 10 s2 (oU (wI u s3 (upd (mI u s3) (Int32.toNatClampNeg s2) (s1 + s0))) (fun u20 => (if (x4 : Int32) = 0 then bX9_attackIt_141 u20 0 else bX9_attackIt_141 u20 1)))
set_option maxRecDepth 100000 in
set_option maxHeartbeats 4000000 in
theorem pX9_attackIt_129 {r : Int32} {u' : Mm} (u : Mm) (x4 : Int32) (s0 : Int32) (s1 : Int32) (s2 : Int32) (s3 : Nat) (h : bX9_attackIt_129 u x4 s0 s1 s2 s3 = some (r, u')) : Eg MX9_attackIt 5 0 0 (some (.int r), u') 129 [(4, .int x4)] [.int s0, .int s1, .int s2, .ref s3] u := by
  unfold bX9_attackIt_129 at h
  refine E_iadd dX9_attackIt_129 ?_
  refine E_iast h dX9_attackIt_130 (fun h => ?_)
  refine E_oU h (fun u20 h => ?_)
  refine E_iload dX9_attackIt_131 rfl ?_
  refine E_if_eq (tgt := 140) h dX9_attackIt_133 (by decide) (fun h => ?_) (fun h => ?_)
  · refine E_iconst (v := 0) dX9_attackIt_140 (by decide) ?_
    refine Eg.pick [] rfl ?_
    exact pX9_attackIt_141 _ _ h
  · refine E_iconst (v := 1) dX9_attackIt_136 (by decide) ?_
    refine E_goto (tgt := 141) dX9_attackIt_137 (by decide) ?_
    refine Eg.pick [] rfl ?_
    exact pX9_attackIt_141 _ _ h
def bX9_attackIt_76 (u : Mm) (a0 : Nat) (x1 : Int32) (x2 : Int32) (x4 : Int32) (s0 : Int32) (s1 : Int32) (s2 : Int32) : Option (Int32 × Mm) := oI ((s2 + (s1 * s0)) + x2) (fun v11 => oK u a0 9 54 (oNn (mR u a0 3) (fun e12 => oA u e12 10 v11 (oI (mI u e12 (Int32.toNatClampNeg v11)) (fun v13 => oK u a0 9 54 (oNn (mR u a0 3) (fun e14 => oA u e14 10 v11 (oI (mI u e14 (Int32.toNatClampNeg v11)) (fun v15 => (if (2 : Int32) ≠ 0 then oA u e12 10 v11 (oU (wI u e12 (upd (mI u e12) (Int32.toNatClampNeg v11) (v13 - (v15 / 2)))) (fun u16 => oK u16 a0 9 54 (oNn (mR u16 a0 3) (fun e17 => oI ((7 : Int32) + x2) (fun v18 => oA u16 e17 10 v18 (oI (mI u16 e17 (Int32.toNatClampNeg v18)) (fun v19 => (if (x4 : Int32) = 0 then bX9_attackIt_129 u16 x4 0 v19 v18 e17 else (if (x1 : Int32) = 0 then bX9_attackIt_129 u16 x4 1 v19 v18 e17 else bX9_attackIt_129 u16 x4 ((-1)) v19 v18 e17))))))))) else none))))))))))
set_option maxRecDepth 100000 in
set_option maxHeartbeats 4000000 in
theorem pX9_attackIt_76 {r : Int32} {u' : Mm} (u : Mm) (a0 : Nat) (x1 : Int32) (x2 : Int32) (x4 : Int32) (s0 : Int32) (s1 : Int32) (s2 : Int32) (h : bX9_attackIt_76 u a0 x1 x2 x4 s0 s1 s2 = some (r, u')) : Eg MX9_attackIt 5 0 0 (some (.int r), u') 76 [(0, .ref a0), (1, .int x1), (2, .int x2), (4, .int x4)] [.int s0, .int s1, .int s2] u := by
  unfold bX9_attackIt_76 at h
  refine E_imul dX9_attackIt_76 ?_
  refine E_iadd dX9_attackIt_77 ?_
  refine E_iload_n dX9_attackIt_78 rfl rfl ?_
  refine E_iadd dX9_attackIt_79 ?_
  refine E_oI h (fun v11 h => ?_)
  refine E_istore (l' := [(5, .int v11), (0, .ref a0), (1, .int x1), (2, .int x2), (4, .int x4)]) dX9_attackIt_80 (Nat.le_of_ble_eq_true rfl) rfl ?_
  refine E_aload_n dX9_attackIt_82 rfl rfl ?_
  refine E_getA h dX9_attackIt_83 cf9 lk_X9_13 (by decide) (fun _ _ _ => rfl) (fun e12 h => ?_)
  refine E_iload dX9_attackIt_86 rfl ?_
  refine E_dup2 dX9_attackIt_88 rfl rfl ?_
  refine E_iald h dX9_attackIt_89 (fun h => ?_)
  refine E_oI h (fun v13 h => ?_)
  refine E_aload_n dX9_attackIt_90 rfl rfl ?_
  refine E_getA h dX9_attackIt_91 cf9 lk_X9_13 (by decide) (fun _ _ _ => rfl) (fun e14 h => ?_)
  refine E_iload dX9_attackIt_94 rfl ?_
  refine E_iald h dX9_attackIt_96 (fun h => ?_)
  refine E_oI h (fun v15 h => ?_)
  refine E_iconst (v := 2) dX9_attackIt_97 (by decide) ?_
  refine E_idiv h dX9_attackIt_98 (fun h => ?_)
  refine E_isub dX9_attackIt_99 ?_
  refine E_iast h dX9_attackIt_100 (fun h => ?_)
  refine E_oU h (fun u16 h => ?_)
  refine E_aload_n dX9_attackIt_101 rfl rfl ?_
  refine E_getA h dX9_attackIt_102 cf9 lk_X9_13 (by decide) (fun _ _ _ => rfl) (fun e17 h => ?_)
  refine E_bipush (v := 7) dX9_attackIt_105 (by decide) ?_
  refine E_iload_n dX9_attackIt_107 rfl rfl ?_
  refine E_iadd dX9_attackIt_108 ?_
  refine E_oI h (fun v18 h => ?_)
  refine E_dup2 dX9_attackIt_109 rfl rfl ?_
  refine E_iald h dX9_attackIt_110 (fun h => ?_)
  refine E_oI h (fun v19 h => ?_)
  refine E_iload dX9_attackIt_111 rfl ?_
  refine E_if_ne (tgt := 120) h dX9_attackIt_113 (by decide) (fun h => ?_) (fun h => ?_)
  · refine E_iload_n dX9_attackIt_120 rfl rfl ?_
    refine E_if_ne (tgt := 128) h dX9_attackIt_121 (by decide) (fun h => ?_) (fun h => ?_)
    · refine E_iconst (v := (-1)) dX9_attackIt_128 (by decide) ?_
      refine Eg.pick [4] rfl ?_
      exact pX9_attackIt_129 _ _ _ _ _ _ h
    · refine E_iconst (v := 1) dX9_attackIt_124 (by decide) ?_
      refine E_goto (tgt := 129) dX9_attackIt_125 (by decide) ?_
      refine Eg.pick [4] rfl ?_
      exact pX9_attackIt_129 _ _ _ _ _ _ h
  · refine E_iconst (v := 0) dX9_attackIt_116 (by decide) ?_
    refine E_goto (tgt := 129) dX9_attackIt_117 (by decide) ?_
    refine Eg.pick [4] rfl ?_
    exact pX9_attackIt_129 _ _ _ _ _ _ h
def bX9_attackIt_59 (u : Mm) (a0 : Nat) (x1 : Int32) (x2 : Int32) (x3 : Int32) (s0 : Int32) : Option (Int32 × Mm) := (if (x3 : Int32) = 0 then bX9_attackIt_76 u a0 x1 x2 s0 x1 8 15 else bX9_attackIt_76 u a0 x1 x2 s0 ((1 : Int32) - x1) 8 15)
set_option maxRecDepth 100000 in
set_option maxHeartbeats 4000000 in
theorem pX9_attackIt_59 {r : Int32} {u' : Mm} (u : Mm) (a0 : Nat) (x1 : Int32) (x2 : Int32) (x3 : Int32) (s0 : Int32) (h : bX9_attackIt_59 u a0 x1 x2 x3 s0 = some (r, u')) : Eg MX9_attackIt 5 0 0 (some (.int r), u') 59 [(0, .ref a0), (1, .int x1), (2, .int x2), (3, .int x3)] [.int s0] u := by
  unfold bX9_attackIt_59 at h
  refine E_istore (l' := [(4, .int s0), (0, .ref a0), (1, .int x1), (2, .int x2), (3, .int x3)]) dX9_attackIt_59 (Nat.le_of_ble_eq_true rfl) rfl ?_
  refine E_bipush (v := 15) dX9_attackIt_61 (by decide) ?_
  refine E_bipush (v := 8) dX9_attackIt_63 (by decide) ?_
  refine E_iload_n dX9_attackIt_65 rfl rfl ?_
  refine E_if_eq (tgt := 75) h dX9_attackIt_66 (by decide) (fun h => ?_) (fun h => ?_)
  · refine E_iload_n dX9_attackIt_75 rfl rfl ?_
    refine Eg.pick [1, 2, 3, 0] rfl ?_
    exact pX9_attackIt_76 _ _ _ _ _ _ _ _ h
  · refine E_iconst (v := 1) dX9_attackIt_69 (by decide) ?_
    refine E_iload_n dX9_attackIt_70 rfl rfl ?_
    refine E_isub dX9_attackIt_71 ?_
    refine E_goto (tgt := 76) dX9_attackIt_72 (by decide) ?_
    refine Eg.pick [1, 2, 3, 0] rfl ?_
    exact pX9_attackIt_76 _ _ _ _ _ _ _ _ h
def bX9_attackIt_58 (u : Mm) (a0 : Nat) (x1 : Int32) (x2 : Int32) (x3 : Int32) : Option (Int32 × Mm) := bX9_attackIt_59 u a0 x1 x2 x3 0
set_option maxRecDepth 100000 in
set_option maxHeartbeats 4000000 in
theorem pX9_attackIt_58 {r : Int32} {u' : Mm} (u : Mm) (a0 : Nat) (x1 : Int32) (x2 : Int32) (x3 : Int32) (h : bX9_attackIt_58 u a0 x1 x2 x3 = some (r, u')) : Eg MX9_attackIt 5 0 0 (some (.int r), u') 58 [(0, .ref a0), (1, .int x1), (2, .int x2), (3, .int x3)] [] u := by
  unfold bX9_attackIt_58 at h
  refine E_iconst (v := 0) dX9_attackIt_58 (by decide) ?_
  refine Eg.pick [0, 1, 2, 3] rfl ?_
  exact pX9_attackIt_59 _ _ _ _ _ _ h
def bX9_attackIt_40 (u : Mm) (a0 : Nat) (x1 : Int32) (x2 : Int32) (s0 : Int32) : Option (Int32 × Mm) := (if (s0 : Int32) = 0 then bX9_attackIt_58 u a0 x1 x2 s0 else oR u a0 9 (oB (fX9_canGoOn u a0 x1 x2) (fun v21 u22 => (if (v21 : Int32) = 0 then bX9_attackIt_58 u22 a0 x1 x2 s0 else bX9_attackIt_59 u22 a0 x1 x2 s0 1))))
set_option maxRecDepth 100000 in
set_option maxHeartbeats 4000000 in
theorem pX9_attackIt_40 {r : Int32} {u' : Mm} (u : Mm) (a0 : Nat) (x1 : Int32) (x2 : Int32) (s0 : Int32) (h : bX9_attackIt_40 u a0 x1 x2 s0 = some (r, u')) : Eg MX9_attackIt 5 0 0 (some (.int r), u') 40 [(0, .ref a0), (1, .int x1), (2, .int x2)] [.int s0] u := by
  unfold bX9_attackIt_40 at h
  refine E_istore_n (l' := [(3, .int s0), (0, .ref a0), (1, .int x1), (2, .int x2)]) dX9_attackIt_40 rfl (Nat.le_of_ble_eq_true rfl) rfl ?_
  refine E_iload_n dX9_attackIt_41 rfl rfl ?_
  refine E_if_eq (tgt := 58) h dX9_attackIt_42 (by decide) (fun h => ?_) (fun h => ?_)
  · refine Eg.pick [1, 2, 3, 0] rfl ?_
    exact pX9_attackIt_58 _ _ _ _ _ h
  · refine E_aload_n dX9_attackIt_45 rfl rfl ?_
    refine E_iload_n dX9_attackIt_46 rfl rfl ?_
    refine E_iload_n dX9_attackIt_47 rfl rfl ?_
    refine F_Vi h (fun a m e => tX9_canGoOn e) dX9_attackIt_48 hm_X9_canGoOn hv_X9_canGoOn ln_X9_406 rfl rfl (Nat.le_of_ble_eq_true rfl) (Nat.le_of_ble_eq_true rfl) (kc' := 0) (ks' := 0) rfl rfl (fun v21 u22 h => ?_)
    refine E_if_eq (tgt := 58) h dX9_attackIt_51 (by decide) (fun h => ?_) (fun h => ?_)
    · refine Eg.pick [1, 2, 3, 0] rfl ?_
      exact pX9_attackIt_58 _ _ _ _ _ h
    · refine E_iconst (v := 1) dX9_attackIt_54 (by decide) ?_
      refine E_goto (tgt := 59) dX9_attackIt_55 (by decide) ?_
      refine Eg.pick [1, 2, 3, 0] rfl ?_
      exact pX9_attackIt_59 _ _ _ _ _ _ h
def fX9_attackIt (u : Mm) (a0 : Nat) (x1 : Int32) (x2 : Int32) : Option (Int32 × Mm) := oK u a0 9 54 (oNn (mR u a0 3) (fun e1 => oI ((31 : Int32) + x1) (fun v2 => oA u e1 10 v2 (oI (mI u e1 (Int32.toNatClampNeg v2)) (fun v3 => oR u a0 9 (oB (fX9_costsOf u a0 x1 x2) (fun v4 u5 => oA u5 e1 10 v2 (oU (wI u5 e1 (upd (mI u5 e1) (Int32.toNatClampNeg v2) (v3 - v4))) (fun u6 => oR u6 a0 9 (oB (fX9_menOf u6 a0 x1 x2) (fun v7 u8 => oR u8 a0 9 (oB (fX9_menOf u8 a0 ((1 : Int32) - x1) x2) (fun v9 u10 => (if (v7 : Int32) ≤ v9 then bX9_attackIt_40 u10 a0 x1 x2 0 else bX9_attackIt_40 u10 a0 x1 x2 1))))))))))))))
set_option maxRecDepth 100000 in
set_option maxHeartbeats 4000000 in
theorem tX9_attackIt {u : Mm} {a0 : Nat} {x1 : Int32} {x2 : Int32} {r : Int32} {u' : Mm} (h : fX9_attackIt u a0 x1 x2 = some (r, u')) : Ev 5 MX9_attackIt 0 0 [.ref a0, .int x1, .int x2] u (some (.int r), u') := by
  refine Ev.of (by decide +kernel) (Nat.le_of_ble_eq_true rfl) (show Eg MX9_attackIt 5 0 0 (some (.int r), u') 0 [(0, .ref a0), (1, .int x1), (2, .int x2)] [] u from ?_)
  unfold fX9_attackIt at h
  refine E_aload_n dX9_attackIt_0 rfl rfl ?_
  refine E_getA h dX9_attackIt_1 cf9 lk_X9_13 (by decide) (fun _ _ _ => rfl) (fun e1 h => ?_)
  refine E_bipush (v := 31) dX9_attackIt_4 (by decide) ?_
  refine E_iload_n dX9_attackIt_6 rfl rfl ?_
  refine E_iadd dX9_attackIt_7 ?_
  refine E_oI h (fun v2 h => ?_)
  refine E_dup2 dX9_attackIt_8 rfl rfl ?_
  refine E_iald h dX9_attackIt_9 (fun h => ?_)
  refine E_oI h (fun v3 h => ?_)
  refine E_aload_n dX9_attackIt_10 rfl rfl ?_
  refine E_iload_n dX9_attackIt_11 rfl rfl ?_
  refine E_iload_n dX9_attackIt_12 rfl rfl ?_
  refine F_Vi h (fun a m e => tX9_costsOf e) dX9_attackIt_13 hm_X9_costsOf hv_X9_costsOf ln_X9_179 rfl rfl (Nat.le_of_ble_eq_true rfl) (Nat.le_of_ble_eq_true rfl) (kc' := 0) (ks' := 0) rfl rfl (fun v4 u5 h => ?_)
  refine E_isub dX9_attackIt_16 ?_
  refine E_iast h dX9_attackIt_17 (fun h => ?_)
  refine E_oU h (fun u6 h => ?_)
  refine E_aload_n dX9_attackIt_18 rfl rfl ?_
  refine E_iload_n dX9_attackIt_19 rfl rfl ?_
  refine E_iload_n dX9_attackIt_20 rfl rfl ?_
  refine F_Vi h (fun a m e => tX9_menOf e) dX9_attackIt_21 hm_X9_menOf hv_X9_menOf ln_X9_163 rfl rfl (Nat.le_of_ble_eq_true rfl) (Nat.le_of_ble_eq_true rfl) (kc' := 0) (ks' := 0) rfl rfl (fun v7 u8 h => ?_)
  refine E_aload_n dX9_attackIt_24 rfl rfl ?_
  refine E_iconst (v := 1) dX9_attackIt_25 (by decide) ?_
  refine E_iload_n dX9_attackIt_26 rfl rfl ?_
  refine E_isub dX9_attackIt_27 ?_
  refine E_iload_n dX9_attackIt_28 rfl rfl ?_
  refine F_Vi h (fun a m e => tX9_menOf e) dX9_attackIt_29 hm_X9_menOf hv_X9_menOf ln_X9_163 rfl rfl (Nat.le_of_ble_eq_true rfl) (Nat.le_of_ble_eq_true rfl) (kc' := 0) (ks' := 0) rfl rfl (fun v9 u10 h => ?_)
  refine E_ic_le (tgt := 39) h dX9_attackIt_32 (by decide) (fun h => ?_) (fun h => ?_)
  · refine E_iconst (v := 0) dX9_attackIt_39 (by decide) ?_
    refine Eg.pick [0, 1, 2] rfl ?_
    exact pX9_attackIt_40 _ _ _ _ _ h
  · refine E_iconst (v := 1) dX9_attackIt_35 (by decide) ?_
    refine E_goto (tgt := 40) dX9_attackIt_36 (by decide) ?_
    refine Eg.pick [0, 1, 2] rfl ?_
    exact pX9_attackIt_40 _ _ _ _ _ h
def fX9_attackNow (u : Mm) (a0 : Nat) (x1 : Int32) (x2 : Int32) : Option (Int32 × Mm) := oB (fX9_isSide u x1) (fun v1 u2 => (if (v1 : Int32) = 0 then some ((-1), u2) else oB (fX9_isEight u2 x2) (fun v3 u4 => (if (v3 : Int32) = 0 then some ((-1), u4) else oR u4 a0 9 (oB (fX9_canAttack u4 a0 x1 x2) (fun v5 u6 => (if (v5 : Int32) = 0 then some ((-3), u6) else oR u6 a0 9 (oB (fX9_remember u6 a0 0) (fun _ u7 => oR u7 a0 9 (oB (fX9_attackIt u7 a0 x1 x2) (fun v8 u9 => some (v8, u9))))))))))))
set_option maxRecDepth 100000 in
set_option maxHeartbeats 4000000 in
theorem tX9_attackNow {u : Mm} {a0 : Nat} {x1 : Int32} {x2 : Int32} {r : Int32} {u' : Mm} (h : fX9_attackNow u a0 x1 x2 = some (r, u')) : Ev 6 MX9_attackNow 0 0 [.ref a0, .int x1, .int x2] u (some (.int r), u') := by
  refine Ev.of (by decide +kernel) (Nat.le_of_ble_eq_true rfl) (show Eg MX9_attackNow 6 0 0 (some (.int r), u') 0 [(0, .ref a0), (1, .int x1), (2, .int x2)] [] u from ?_)
  unfold fX9_attackNow at h
  refine E_iload_n dX9_attackNow_0 rfl rfl ?_
  refine F_Si h (fun a m e => tX9_isSide e) dX9_attackNow_1 hm_X9_isSide hs_X9_isSide ln_X9_167 rfl rfl (Nat.le_of_ble_eq_true rfl) (Nat.le_of_ble_eq_true rfl) (kc' := 0) (ks' := 0) rfl rfl (fun v1 u2 h => ?_)
  refine E_if_eq (tgt := 14) h dX9_attackNow_4 (by decide) (fun h => ?_) (fun h => ?_)
  · refine E_iconst (v := (-1)) dX9_attackNow_14 (by decide) ?_
    exact E_iret h dX9_attackNow_15 rfl
  · refine E_iload_n dX9_attackNow_7 rfl rfl ?_
    refine F_Si h (fun a m e => tX9_isEight e) dX9_attackNow_8 hm_X9_isEight hs_X9_isEight ln_X9_171 rfl rfl (Nat.le_of_ble_eq_true rfl) (Nat.le_of_ble_eq_true rfl) (kc' := 0) (ks' := 0) rfl rfl (fun v3 u4 h => ?_)
    refine E_if_ne (tgt := 16) h dX9_attackNow_11 (by decide) (fun h => ?_) (fun h => ?_)
    · refine E_aload_n dX9_attackNow_16 rfl rfl ?_
      refine E_iload_n dX9_attackNow_17 rfl rfl ?_
      refine E_iload_n dX9_attackNow_18 rfl rfl ?_
      refine F_Vi h (fun a m e => tX9_canAttack e) dX9_attackNow_19 hm_X9_canAttack hv_X9_canAttack ln_X9_409 rfl rfl (Nat.le_of_ble_eq_true rfl) (Nat.le_of_ble_eq_true rfl) (kc' := 0) (ks' := 0) rfl rfl (fun v5 u6 h => ?_)
      refine E_if_ne (tgt := 28) h dX9_attackNow_22 (by decide) (fun h => ?_) (fun h => ?_)
      · refine E_aload_n dX9_attackNow_28 rfl rfl ?_
        refine E_iconst (v := 0) dX9_attackNow_29 (by decide) ?_
        refine F_Vv h (fun m e => tX9_remember e) dX9_attackNow_30 hm_X9_remember hv_X9_remember ln_X9_412 rfl rfl (Nat.le_of_ble_eq_true rfl) (Nat.le_of_ble_eq_true rfl) (kc' := 0) (ks' := 0) rfl rfl (fun u7 h => ?_)
        refine E_aload_n dX9_attackNow_33 rfl rfl ?_
        refine E_iload_n dX9_attackNow_34 rfl rfl ?_
        refine E_iload_n dX9_attackNow_35 rfl rfl ?_
        refine F_Vi h (fun a m e => tX9_attackIt e) dX9_attackNow_36 hm_X9_attackIt hv_X9_attackIt ln_X9_415 rfl rfl (Nat.le_of_ble_eq_true rfl) (Nat.le_of_ble_eq_true rfl) (kc' := 0) (ks' := 0) rfl rfl (fun v8 u9 h => ?_)
        exact E_iret h dX9_attackNow_39 rfl
      · refine E_bipush (v := (-3)) dX9_attackNow_25 (by decide) ?_
        exact E_iret h dX9_attackNow_27 rfl
    · refine E_iconst (v := (-1)) dX9_attackNow_14 (by decide) ?_
      exact E_iret h dX9_attackNow_15 rfl
def fX9_attack (u : Mm) (a0 : Nat) (x1 : Int32) (x2 : Int32) : Option (Int32 × Mm) := oK u a0 9 54 (oU (wI u a0 (upd (mI u a0) 0 0)) (fun u1 => oR u1 a0 9 (oB (fX9_attackNow u1 a0 x1 x2) (fun v2 u3 => oR u3 a0 9 (oB (fX9_answer u3 a0 v2) (fun v4 u5 => some (v4, u5)))))))
set_option maxRecDepth 100000 in
set_option maxHeartbeats 4000000 in
theorem tX9_attack {u : Mm} {a0 : Nat} {x1 : Int32} {x2 : Int32} {r : Int32} {u' : Mm} (h : fX9_attack u a0 x1 x2 = some (r, u')) : Ev 7 MX9_attack 0 0 [.ref a0, .int x1, .int x2] u (some (.int r), u') := by
  refine Ev.of (by decide +kernel) (Nat.le_of_ble_eq_true rfl) (show Eg MX9_attack 7 0 0 (some (.int r), u') 0 [(0, .ref a0), (1, .int x1), (2, .int x2)] [] u from ?_)
  unfold fX9_attack at h
  refine E_aload_n dX9_attack_0 rfl rfl ?_
  refine E_iconst (v := 0) dX9_attack_1 (by decide) ?_
  refine E_putI h dX9_attack_2 cf9 lk_X9_134 (by decide) (Or.inl rfl) rfl (fun h => ?_)
  refine E_oU h (fun u1 h => ?_)
  refine E_aload_n dX9_attack_5 rfl rfl ?_
  refine E_aload_n dX9_attack_6 rfl rfl ?_
  refine E_iload_n dX9_attack_7 rfl rfl ?_
  refine E_iload_n dX9_attack_8 rfl rfl ?_
  refine F_Vi h (fun a m e => tX9_attackNow e) dX9_attack_9 hm_X9_attackNow hv_X9_attackNow ln_X9_418 rfl rfl (Nat.le_of_ble_eq_true rfl) (Nat.le_of_ble_eq_true rfl) (kc' := 0) (ks' := 0) rfl rfl (fun v2 u3 h => ?_)
  refine F_Vi h (fun a m e => tX9_answer e) dX9_attack_12 hm_X9_answer hv_X9_answer ln_X9_143 rfl rfl (Nat.le_of_ble_eq_true rfl) (Nat.le_of_ble_eq_true rfl) (kc' := 0) (ks' := 0) rfl rfl (fun v4 u5 h => ?_)
  exact E_iret h dX9_attack_15 rfl
def bX9_shiftNow_13 (u : Mm) (a0 : Nat) (x1 : Int32) (x2 : Int32) (x3 : Int32) (s0 : Int32) : Option (Int32 × Mm) := oB (fX9_isSide u x1) (fun v1 u2 => (if (v1 : Int32) = 0 then some ((-1), u2) else oB (fX9_isEight u2 x2) (fun v3 u4 => (if (v3 : Int32) = 0 then some ((-1), u4) else (if (x3 : Int32) = 0 then some ((-1), u4) else oB (fX9_in u4 (Int32.toInt64 x3) ((-99)) 99) (fun v5 u6 => (if (v5 : Int32) = 0 then some ((-1), u6) else oB (fX9_isEight u6 s0) (fun v7 u8 => (if (v7 : Int32) = 0 then some ((-1), u8) else oB (fX9_sizeOf u8 x3) (fun v9 u10 => oR u10 a0 9 (oB (fX9_menOf u10 a0 x1 x2) (fun v11 u12 => (if (v11 : Int32) < v9 then some ((-3), u12) else oR u12 a0 9 (oB (fX9_menOf u12 a0 x1 s0) (fun v13 u14 => (if (v13 + v9 : Int32) ≤ 99 then oR u14 a0 9 (oB (fX9_remember u14 a0 1) (fun _ u15 => oK u15 a0 9 54 (oNn (mR u15 a0 3) (fun e16 => oI (((15 : Int32) + ((8 : Int32) * x1)) + x2) (fun v17 => oA u15 e16 10 v17 (oI (mI u15 e16 (Int32.toNatClampNeg v17)) (fun v18 => oA u15 e16 10 v17 (oU (wI u15 e16 (upd (mI u15 e16) (Int32.toNatClampNeg v17) (v18 - v9))) (fun u19 => oK u19 a0 9 54 (oNn (mR u19 a0 3) (fun e20 => oI (((15 : Int32) + ((8 : Int32) * x1)) + s0) (fun v21 => oA u19 e20 10 v21 (oI (mI u19 e20 (Int32.toNatClampNeg v21)) (fun v22 => oA u19 e20 10 v21 (oU (wI u19 e20 (upd (mI u19 e20) (Int32.toNatClampNeg v21) (v22 + v9))) (fun u23 => oR u23 a0 9 (oB (fX9_menOf u23 a0 x1 x2) (fun v24 u25 => some (v24, u25))))))))))))))))))) else some ((-3), u14)))))))))))))))))
set_option maxRecDepth 100000 in
set_option maxHeartbeats 4000000 in
theorem pX9_shiftNow_13 {r : Int32} {u' : Mm} (u : Mm) (a0 : Nat) (x1 : Int32) (x2 : Int32) (x3 : Int32) (s0 : Int32) (h : bX9_shiftNow_13 u a0 x1 x2 x3 s0 = some (r, u')) : Eg MX9_shiftNow 2 0 0 (some (.int r), u') 13 [(0, .ref a0), (1, .int x1), (2, .int x2), (3, .int x3)] [.int s0] u := by
  unfold bX9_shiftNow_13 at h
  refine E_istore (l' := [(4, .int s0), (0, .ref a0), (1, .int x1), (2, .int x2), (3, .int x3)]) dX9_shiftNow_13 (Nat.le_of_ble_eq_true rfl) rfl ?_
  refine E_iload_n dX9_shiftNow_15 rfl rfl ?_
  refine F_Si h (fun a m e => tX9_isSide e) dX9_shiftNow_16 hm_X9_isSide hs_X9_isSide ln_X9_167 rfl rfl (Nat.le_of_ble_eq_true rfl) (Nat.le_of_ble_eq_true rfl) (kc' := 0) (ks' := 0) rfl rfl (fun v1 u2 h => ?_)
  refine E_if_eq (tgt := 55) h dX9_shiftNow_19 (by decide) (fun h => ?_) (fun h => ?_)
  · refine E_iconst (v := (-1)) dX9_shiftNow_55 (by decide) ?_
    exact E_iret h dX9_shiftNow_56 rfl
  · refine E_iload_n dX9_shiftNow_22 rfl rfl ?_
    refine F_Si h (fun a m e => tX9_isEight e) dX9_shiftNow_23 hm_X9_isEight hs_X9_isEight ln_X9_171 rfl rfl (Nat.le_of_ble_eq_true rfl) (Nat.le_of_ble_eq_true rfl) (kc' := 0) (ks' := 0) rfl rfl (fun v3 u4 h => ?_)
    refine E_if_eq (tgt := 55) h dX9_shiftNow_26 (by decide) (fun h => ?_) (fun h => ?_)
    · refine E_iconst (v := (-1)) dX9_shiftNow_55 (by decide) ?_
      exact E_iret h dX9_shiftNow_56 rfl
    · refine E_iload_n dX9_shiftNow_29 rfl rfl ?_
      refine E_if_eq (tgt := 55) h dX9_shiftNow_30 (by decide) (fun h => ?_) (fun h => ?_)
      · refine E_iconst (v := (-1)) dX9_shiftNow_55 (by decide) ?_
        exact E_iret h dX9_shiftNow_56 rfl
      · refine E_iload_n dX9_shiftNow_33 rfl rfl ?_
        refine E_i2l dX9_shiftNow_34 ?_
        refine E_ldc2 dX9_shiftNow_35 rfl cn_X9_421 ?_
        refine E_ldc2 dX9_shiftNow_38 rfl cn_X9_174 ?_
        refine F_Si h (fun a m e => tX9_in e) dX9_shiftNow_41 hm_X9_in hs_X9_in ln_X9_154 rfl rfl (Nat.le_of_ble_eq_true rfl) (Nat.le_of_ble_eq_true rfl) (kc' := 0) (ks' := 0) rfl rfl (fun v5 u6 h => ?_)
        refine E_if_eq (tgt := 55) h dX9_shiftNow_44 (by decide) (fun h => ?_) (fun h => ?_)
        · refine E_iconst (v := (-1)) dX9_shiftNow_55 (by decide) ?_
          exact E_iret h dX9_shiftNow_56 rfl
        · refine E_iload dX9_shiftNow_47 rfl ?_
          refine F_Si h (fun a m e => tX9_isEight e) dX9_shiftNow_49 hm_X9_isEight hs_X9_isEight ln_X9_171 rfl rfl (Nat.le_of_ble_eq_true rfl) (Nat.le_of_ble_eq_true rfl) (kc' := 0) (ks' := 0) rfl rfl (fun v7 u8 h => ?_)
          refine E_if_ne (tgt := 57) h dX9_shiftNow_52 (by decide) (fun h => ?_) (fun h => ?_)
          · refine E_iload_n dX9_shiftNow_57 rfl rfl ?_
            refine F_Si h (fun a m e => tX9_sizeOf e) dX9_shiftNow_58 hm_X9_sizeOf hs_X9_sizeOf ln_X9_423 rfl rfl (Nat.le_of_ble_eq_true rfl) (Nat.le_of_ble_eq_true rfl) (kc' := 0) (ks' := 0) rfl rfl (fun v9 u10 h => ?_)
            refine E_istore (l' := [(5, .int v9), (4, .int s0), (0, .ref a0), (1, .int x1), (2, .int x2), (3, .int x3)]) dX9_shiftNow_61 (Nat.le_of_ble_eq_true rfl) rfl ?_
            refine E_aload_n dX9_shiftNow_63 rfl rfl ?_
            refine E_iload_n dX9_shiftNow_64 rfl rfl ?_
            refine E_iload_n dX9_shiftNow_65 rfl rfl ?_
            refine F_Vi h (fun a m e => tX9_menOf e) dX9_shiftNow_66 hm_X9_menOf hv_X9_menOf ln_X9_163 rfl rfl (Nat.le_of_ble_eq_true rfl) (Nat.le_of_ble_eq_true rfl) (kc' := 0) (ks' := 0) rfl rfl (fun v11 u12 h => ?_)
            refine E_iload dX9_shiftNow_69 rfl ?_
            refine E_ic_lt (tgt := 89) h dX9_shiftNow_71 (by decide) (fun h => ?_) (fun h => ?_)
            · refine E_bipush (v := (-3)) dX9_shiftNow_89 (by decide) ?_
              exact E_iret h dX9_shiftNow_91 rfl
            · refine E_aload_n dX9_shiftNow_74 rfl rfl ?_
              refine E_iload_n dX9_shiftNow_75 rfl rfl ?_
              refine E_iload dX9_shiftNow_76 rfl ?_
              refine F_Vi h (fun a m e => tX9_menOf e) dX9_shiftNow_78 hm_X9_menOf hv_X9_menOf ln_X9_163 rfl rfl (Nat.le_of_ble_eq_true rfl) (Nat.le_of_ble_eq_true rfl) (kc' := 0) (ks' := 0) rfl rfl (fun v13 u14 h => ?_)
              refine E_iload dX9_shiftNow_81 rfl ?_
              refine E_iadd dX9_shiftNow_83 ?_
              refine E_bipush (v := 99) dX9_shiftNow_84 (by decide) ?_
              refine E_ic_le (tgt := 92) h dX9_shiftNow_86 (by decide) (fun h => ?_) (fun h => ?_)
              · refine E_aload_n dX9_shiftNow_92 rfl rfl ?_
                refine E_iconst (v := 1) dX9_shiftNow_93 (by decide) ?_
                refine F_Vv h (fun m e => tX9_remember e) dX9_shiftNow_94 hm_X9_remember hv_X9_remember ln_X9_412 rfl rfl (Nat.le_of_ble_eq_true rfl) (Nat.le_of_ble_eq_true rfl) (kc' := 0) (ks' := 0) rfl rfl (fun u15 h => ?_)
                refine E_aload_n dX9_shiftNow_97 rfl rfl ?_
                refine E_getA h dX9_shiftNow_98 cf9 lk_X9_13 (by decide) (fun _ _ _ => rfl) (fun e16 h => ?_)
                refine E_bipush (v := 15) dX9_shiftNow_101 (by decide) ?_
                refine E_bipush (v := 8) dX9_shiftNow_103 (by decide) ?_
                refine E_iload_n dX9_shiftNow_105 rfl rfl ?_
                refine E_imul dX9_shiftNow_106 ?_
                refine E_iadd dX9_shiftNow_107 ?_
                refine E_iload_n dX9_shiftNow_108 rfl rfl ?_
                refine E_iadd dX9_shiftNow_109 ?_
                refine E_oI h (fun v17 h => ?_)
                refine E_dup2 dX9_shiftNow_110 rfl rfl ?_
                refine E_iald h dX9_shiftNow_111 (fun h => ?_)
                refine E_oI h (fun v18 h => ?_)
                refine E_iload dX9_shiftNow_112 rfl ?_
                refine E_isub dX9_shiftNow_114 ?_
                refine E_iast h dX9_shiftNow_115 (fun h => ?_)
                refine E_oU h (fun u19 h => ?_)
                refine E_aload_n dX9_shiftNow_116 rfl rfl ?_
                refine E_getA h dX9_shiftNow_117 cf9 lk_X9_13 (by decide) (fun _ _ _ => rfl) (fun e20 h => ?_)
                refine E_bipush (v := 15) dX9_shiftNow_120 (by decide) ?_
                refine E_bipush (v := 8) dX9_shiftNow_122 (by decide) ?_
                refine E_iload_n dX9_shiftNow_124 rfl rfl ?_
                refine E_imul dX9_shiftNow_125 ?_
                refine E_iadd dX9_shiftNow_126 ?_
                refine E_iload dX9_shiftNow_127 rfl ?_
                refine E_iadd dX9_shiftNow_129 ?_
                refine E_oI h (fun v21 h => ?_)
                refine E_dup2 dX9_shiftNow_130 rfl rfl ?_
                refine E_iald h dX9_shiftNow_131 (fun h => ?_)
                refine E_oI h (fun v22 h => ?_)
                refine E_iload dX9_shiftNow_132 rfl ?_
                refine E_iadd dX9_shiftNow_134 ?_
                refine E_iast h dX9_shiftNow_135 (fun h => ?_)
                refine E_oU h (fun u23 h => ?_)
                refine E_aload_n dX9_shiftNow_136 rfl rfl ?_
                refine E_iload_n dX9_shiftNow_137 rfl rfl ?_
                refine E_iload_n dX9_shiftNow_138 rfl rfl ?_
                refine F_Vi h (fun a m e => tX9_menOf e) dX9_shiftNow_139 hm_X9_menOf hv_X9_menOf ln_X9_163 rfl rfl (Nat.le_of_ble_eq_true rfl) (Nat.le_of_ble_eq_true rfl) (kc' := 0) (ks' := 0) rfl rfl (fun v24 u25 h => ?_)
                exact E_iret h dX9_shiftNow_142 rfl
              · refine E_bipush (v := (-3)) dX9_shiftNow_89 (by decide) ?_
                exact E_iret h dX9_shiftNow_91 rfl
          · refine E_iconst (v := (-1)) dX9_shiftNow_55 (by decide) ?_
            exact E_iret h dX9_shiftNow_56 rfl
def fX9_shiftNow (u : Mm) (a0 : Nat) (x1 : Int32) (x2 : Int32) (x3 : Int32) : Option (Int32 × Mm) := (if (x3 : Int32) ≤ 0 then bX9_shiftNow_13 u a0 x1 x2 x3 (x2 - 1) else bX9_shiftNow_13 u a0 x1 x2 x3 (x2 + 1))
set_option maxRecDepth 100000 in
set_option maxHeartbeats 4000000 in
theorem tX9_shiftNow {u : Mm} {a0 : Nat} {x1 : Int32} {x2 : Int32} {x3 : Int32} {r : Int32} {u' : Mm} (h : fX9_shiftNow u a0 x1 x2 x3 = some (r, u')) : Ev 2 MX9_shiftNow 0 0 [.ref a0, .int x1, .int x2, .int x3] u (some (.int r), u') := by
  refine Ev.of (by decide +kernel) (Nat.le_of_ble_eq_true rfl) (show Eg MX9_shiftNow 2 0 0 (some (.int r), u') 0 [(0, .ref a0), (1, .int x1), (2, .int x2), (3, .int x3)] [] u from ?_)
  unfold fX9_shiftNow at h
  refine E_iload_n dX9_shiftNow_0 rfl rfl ?_
  refine E_if_le (tgt := 10) h dX9_shiftNow_1 (by decide) (fun h => ?_) (fun h => ?_)
  · refine E_iload_n dX9_shiftNow_10 rfl rfl ?_
    refine E_iconst (v := 1) dX9_shiftNow_11 (by decide) ?_
    refine E_isub dX9_shiftNow_12 ?_
    refine Eg.pick [0, 1, 2, 3] rfl ?_
    exact pX9_shiftNow_13 _ _ _ _ _ _ h
  · refine E_iload_n dX9_shiftNow_4 rfl rfl ?_
    refine E_iconst (v := 1) dX9_shiftNow_5 (by decide) ?_
    refine E_iadd dX9_shiftNow_6 ?_
    refine E_goto (tgt := 13) dX9_shiftNow_7 (by decide) ?_
    refine Eg.pick [0, 1, 2, 3] rfl ?_
    exact pX9_shiftNow_13 _ _ _ _ _ _ h
def fX9_shift (u : Mm) (a0 : Nat) (x1 : Int32) (x2 : Int32) (x3 : Int32) : Option (Int32 × Mm) := oK u a0 9 54 (oU (wI u a0 (upd (mI u a0) 0 0)) (fun u1 => oR u1 a0 9 (oB (fX9_shiftNow u1 a0 x1 x2 x3) (fun v2 u3 => oR u3 a0 9 (oB (fX9_answer u3 a0 v2) (fun v4 u5 => some (v4, u5)))))))
set_option maxRecDepth 100000 in
set_option maxHeartbeats 4000000 in
theorem tX9_shift {u : Mm} {a0 : Nat} {x1 : Int32} {x2 : Int32} {x3 : Int32} {r : Int32} {u' : Mm} (h : fX9_shift u a0 x1 x2 x3 = some (r, u')) : Ev 3 MX9_shift 0 0 [.ref a0, .int x1, .int x2, .int x3] u (some (.int r), u') := by
  refine Ev.of (by decide +kernel) (Nat.le_of_ble_eq_true rfl) (show Eg MX9_shift 3 0 0 (some (.int r), u') 0 [(0, .ref a0), (1, .int x1), (2, .int x2), (3, .int x3)] [] u from ?_)
  unfold fX9_shift at h
  refine E_aload_n dX9_shift_0 rfl rfl ?_
  refine E_iconst (v := 0) dX9_shift_1 (by decide) ?_
  refine E_putI h dX9_shift_2 cf9 lk_X9_134 (by decide) (Or.inl rfl) rfl (fun h => ?_)
  refine E_oU h (fun u1 h => ?_)
  refine E_aload_n dX9_shift_5 rfl rfl ?_
  refine E_aload_n dX9_shift_6 rfl rfl ?_
  refine E_iload_n dX9_shift_7 rfl rfl ?_
  refine E_iload_n dX9_shift_8 rfl rfl ?_
  refine E_iload_n dX9_shift_9 rfl rfl ?_
  refine F_Vi h (fun a m e => tX9_shiftNow e) dX9_shift_10 hm_X9_shiftNow hv_X9_shiftNow ln_X9_426 rfl rfl (Nat.le_of_ble_eq_true rfl) (Nat.le_of_ble_eq_true rfl) (kc' := 0) (ks' := 0) rfl rfl (fun v2 u3 h => ?_)
  refine F_Vi h (fun a m e => tX9_answer e) dX9_shift_13 hm_X9_answer hv_X9_answer ln_X9_143 rfl rfl (Nat.le_of_ble_eq_true rfl) (Nat.le_of_ble_eq_true rfl) (kc' := 0) (ks' := 0) rfl rfl (fun v4 u5 h => ?_)
  exact E_iret h dX9_shift_16 rfl
def bX9_showIt_8 (k8 : Mm → Nat → Int32 → Int32 → Int32 → Option (Int32 × Mm)) (u : Mm) (a0 : Nat) (x3 : Int32) (x4 : Int32) (x5 : Int32) : Option (Int32 × Mm) := (if (x4 : Int32) = ((-1)) then some (x3, u) else (if (16 : Int32) ≤ x3 then some (x3, u) else oK u a0 9 54 (oNn (mR u a0 3) (fun e1 => oK u a0 9 54 (oNn (mR u a0 3) (fun e2 => oA u e2 10 ((33 : Int32) + x5) (oI (mI u e2 (Int32.toNatClampNeg ((33 : Int32) + x5))) (fun v3 => oR u a0 9 (oB (fX9_readsOf u a0 x4 x5) (fun v4 u5 => oB (fX9_within u5 (Int32.toInt64 (v3 + v4)) 0 99) (fun v6 u7 => oA u7 e1 10 ((33 : Int32) + x5) (oU (wI u7 e1 (upd (mI u7 e1) (Int32.toNatClampNeg ((33 : Int32) + x5)) v6)) (fun u8 => oK u8 a0 9 54 (oNn (mR u8 a0 3) (fun e9 => oA u8 e9 10 (((51 : Int32) + ((2 : Int32) * x4)) + x5) (oI (mI u8 e9 (Int32.toNatClampNeg (((51 : Int32) + ((2 : Int32) * x4)) + x5))) (fun v10 => oI ((1 : Int32) - x5) (fun v11 => k8 u8 a0 (x3 + 1) v10 v11))))))))))))))))))
set_option maxRecDepth 100000 in
set_option maxHeartbeats 4000000 in
theorem pX9_showIt_8 {r : Int32} {u' : Mm} {k8 : Mm → Nat → Int32 → Int32 → Int32 → Option (Int32 × Mm)} (hk8 : ∀ (u : Mm) (a0 : Nat) (x3 : Int32) (x4 : Int32) (x5 : Int32), k8 u a0 x3 x4 x5 = some (r, u') → Eg MX9_showIt 5 0 0 (some (.int r), u') 8 [(0, .ref a0), (3, .int x3), (4, .int x4), (5, .int x5)] [] u) (u : Mm) (a0 : Nat) (x3 : Int32) (x4 : Int32) (x5 : Int32) (h : bX9_showIt_8 k8 u a0 x3 x4 x5 = some (r, u')) : Eg MX9_showIt 5 0 0 (some (.int r), u') 8 [(0, .ref a0), (3, .int x3), (4, .int x4), (5, .int x5)] [] u := by
  unfold bX9_showIt_8 at h
  refine E_iload dX9_showIt_8 rfl ?_
  refine E_iconst (v := (-1)) dX9_showIt_10 (by decide) ?_
  refine E_ic_eq (tgt := 85) h dX9_showIt_11 (by decide) (fun h => ?_) (fun h => ?_)
  · refine E_iload_n dX9_showIt_85 rfl rfl ?_
    exact E_iret h dX9_showIt_86 rfl
  · refine E_iload_n dX9_showIt_14 rfl rfl ?_
    refine E_bipush (v := 16) dX9_showIt_15 (by decide) ?_
    refine E_ic_ge (tgt := 85) h dX9_showIt_17 (by decide) (fun h => ?_) (fun h => ?_)
    · refine E_iload_n dX9_showIt_85 rfl rfl ?_
      exact E_iret h dX9_showIt_86 rfl
    · refine E_aload_n dX9_showIt_20 rfl rfl ?_
      refine E_getA h dX9_showIt_21 cf9 lk_X9_13 (by decide) (fun _ _ _ => rfl) (fun e1 h => ?_)
      refine E_bipush (v := 33) dX9_showIt_24 (by decide) ?_
      refine E_iload dX9_showIt_26 rfl ?_
      refine E_iadd dX9_showIt_28 ?_
      refine E_aload_n dX9_showIt_29 rfl rfl ?_
      refine E_getA h dX9_showIt_30 cf9 lk_X9_13 (by decide) (fun _ _ _ => rfl) (fun e2 h => ?_)
      refine E_bipush (v := 33) dX9_showIt_33 (by decide) ?_
      refine E_iload dX9_showIt_35 rfl ?_
      refine E_iadd dX9_showIt_37 ?_
      refine E_iald h dX9_showIt_38 (fun h => ?_)
      refine E_oI h (fun v3 h => ?_)
      refine E_aload_n dX9_showIt_39 rfl rfl ?_
      refine E_iload dX9_showIt_40 rfl ?_
      refine E_iload dX9_showIt_42 rfl ?_
      refine F_Vi h (fun a m e => tX9_readsOf e) dX9_showIt_44 hm_X9_readsOf hv_X9_readsOf ln_X9_198 rfl rfl (Nat.le_of_ble_eq_true rfl) (Nat.le_of_ble_eq_true rfl) (kc' := 0) (ks' := 0) rfl rfl (fun v4 u5 h => ?_)
      refine E_iadd dX9_showIt_47 ?_
      refine E_i2l dX9_showIt_48 ?_
      refine E_iconst (v := 0) dX9_showIt_49 (by decide) ?_
      refine E_bipush (v := 99) dX9_showIt_50 (by decide) ?_
      refine F_Si h (fun a m e => tX9_within e) dX9_showIt_52 hm_X9_within hs_X9_within ln_X9_398 rfl rfl (Nat.le_of_ble_eq_true rfl) (Nat.le_of_ble_eq_true rfl) (kc' := 0) (ks' := 0) rfl rfl (fun v6 u7 h => ?_)
      refine E_iast h dX9_showIt_55 (fun h => ?_)
      refine E_oU h (fun u8 h => ?_)
      refine E_aload_n dX9_showIt_56 rfl rfl ?_
      refine E_getA h dX9_showIt_57 cf9 lk_X9_13 (by decide) (fun _ _ _ => rfl) (fun e9 h => ?_)
      refine E_bipush (v := 51) dX9_showIt_60 (by decide) ?_
      refine E_iconst (v := 2) dX9_showIt_62 (by decide) ?_
      refine E_iload dX9_showIt_63 rfl ?_
      refine E_imul dX9_showIt_65 ?_
      refine E_iadd dX9_showIt_66 ?_
      refine E_iload dX9_showIt_67 rfl ?_
      refine E_iadd dX9_showIt_69 ?_
      refine E_iald h dX9_showIt_70 (fun h => ?_)
      refine E_oI h (fun v10 h => ?_)
      refine E_istore (l' := [(4, .int v10), (0, .ref a0), (3, .int x3), (5, .int x5)]) dX9_showIt_71 (Nat.le_of_ble_eq_true rfl) rfl ?_
      refine E_iconst (v := 1) dX9_showIt_73 (by decide) ?_
      refine E_iload dX9_showIt_74 rfl ?_
      refine E_isub dX9_showIt_76 ?_
      refine E_oI h (fun v11 h => ?_)
      refine E_istore (l' := [(5, .int v11), (4, .int v10), (0, .ref a0), (3, .int x3)]) dX9_showIt_77 (Nat.le_of_ble_eq_true rfl) rfl ?_
      refine E_iinc (j := 3) (v := x3 + 1) (l' := [(3, .int (x3 + 1)), (5, .int v11), (4, .int v10), (0, .ref a0)]) dX9_showIt_79 rfl (addI (by decide)) (Nat.le_of_ble_eq_true rfl) rfl ?_
      refine E_goto (tgt := 8) dX9_showIt_82 (by decide) ?_
      refine Eg.pick [3, 0, 2, 1] rfl ?_
      exact hk8 _ _ _ _ _ h
def rX9_showIt_8 : Nat → Mm → Nat → Int32 → Int32 → Int32 → Option (Int32 × Mm)
  | 0, _, _, _, _, _ => none
  | n + 1, u, a0, x3, x4, x5 => bX9_showIt_8 (rX9_showIt_8 n) u a0 x3 x4 x5
theorem prX9_showIt_8 {r : Int32} {u' : Mm} : ∀ (n : Nat) (u : Mm) (a0 : Nat) (x3 : Int32) (x4 : Int32) (x5 : Int32), rX9_showIt_8 n u a0 x3 x4 x5 = some (r, u') → Eg MX9_showIt 5 0 0 (some (.int r), u') 8 [(0, .ref a0), (3, .int x3), (4, .int x4), (5, .int x5)] [] u
  | 0, _, _, _, _, _, h => by cases h
  | n + 1, u, a0, x3, x4, x5, h => pX9_showIt_8 (prX9_showIt_8 n) u a0 x3 x4 x5 h
def fX9_showIt (u : Mm) (a0 : Nat) (x1 : Int32) (x2 : Int32) : Option (Int32 × Mm) := rX9_showIt_8 hwF u a0 0 x1 x2
set_option maxRecDepth 100000 in
set_option maxHeartbeats 4000000 in
theorem tX9_showIt {u : Mm} {a0 : Nat} {x1 : Int32} {x2 : Int32} {r : Int32} {u' : Mm} (h : fX9_showIt u a0 x1 x2 = some (r, u')) : Ev 5 MX9_showIt 0 0 [.ref a0, .int x1, .int x2] u (some (.int r), u') := by
  refine Ev.of (by decide +kernel) (Nat.le_of_ble_eq_true rfl) (show Eg MX9_showIt 5 0 0 (some (.int r), u') 0 [(0, .ref a0), (1, .int x1), (2, .int x2)] [] u from ?_)
  unfold fX9_showIt at h
  refine E_iconst (v := 0) dX9_showIt_0 (by decide) ?_
  refine E_istore_n (l' := [(3, .int 0), (0, .ref a0), (1, .int x1), (2, .int x2)]) dX9_showIt_1 rfl (Nat.le_of_ble_eq_true rfl) rfl ?_
  refine E_iload_n dX9_showIt_2 rfl rfl ?_
  refine E_istore (l' := [(4, .int x1), (3, .int 0), (0, .ref a0), (1, .int x1), (2, .int x2)]) dX9_showIt_3 (Nat.le_of_ble_eq_true rfl) rfl ?_
  refine E_iload_n dX9_showIt_5 rfl rfl ?_
  refine E_istore (l' := [(5, .int x2), (4, .int x1), (3, .int 0), (0, .ref a0), (1, .int x1), (2, .int x2)]) dX9_showIt_6 (Nat.le_of_ble_eq_true rfl) rfl ?_
  refine Eg.pick [3, 2, 1, 0] rfl ?_
  exact prX9_showIt_8 _ _ _ _ _ _ h
def fX9_showNow (u : Mm) (a0 : Nat) (x1 : Int32) (x2 : Int32) : Option (Int32 × Mm) := oB (fX9_isEight u x1) (fun v1 u2 => (if (v1 : Int32) = 0 then some ((-1), u2) else oB (fX9_isSide u2 x2) (fun v3 u4 => (if (v3 : Int32) = 0 then some ((-1), u4) else oR u4 a0 9 (oB (fX9_remember u4 a0 2) (fun _ u5 => oR u5 a0 9 (oB (fX9_showIt u5 a0 x1 x2) (fun v6 u7 => some (v6, u7)))))))))
set_option maxRecDepth 100000 in
set_option maxHeartbeats 4000000 in
theorem tX9_showNow {u : Mm} {a0 : Nat} {x1 : Int32} {x2 : Int32} {r : Int32} {u' : Mm} (h : fX9_showNow u a0 x1 x2 = some (r, u')) : Ev 6 MX9_showNow 0 0 [.ref a0, .int x1, .int x2] u (some (.int r), u') := by
  refine Ev.of (by decide +kernel) (Nat.le_of_ble_eq_true rfl) (show Eg MX9_showNow 6 0 0 (some (.int r), u') 0 [(0, .ref a0), (1, .int x1), (2, .int x2)] [] u from ?_)
  unfold fX9_showNow at h
  refine E_iload_n dX9_showNow_0 rfl rfl ?_
  refine F_Si h (fun a m e => tX9_isEight e) dX9_showNow_1 hm_X9_isEight hs_X9_isEight ln_X9_171 rfl rfl (Nat.le_of_ble_eq_true rfl) (Nat.le_of_ble_eq_true rfl) (kc' := 0) (ks' := 0) rfl rfl (fun v1 u2 h => ?_)
  refine E_if_eq (tgt := 14) h dX9_showNow_4 (by decide) (fun h => ?_) (fun h => ?_)
  · refine E_iconst (v := (-1)) dX9_showNow_14 (by decide) ?_
    exact E_iret h dX9_showNow_15 rfl
  · refine E_iload_n dX9_showNow_7 rfl rfl ?_
    refine F_Si h (fun a m e => tX9_isSide e) dX9_showNow_8 hm_X9_isSide hs_X9_isSide ln_X9_167 rfl rfl (Nat.le_of_ble_eq_true rfl) (Nat.le_of_ble_eq_true rfl) (kc' := 0) (ks' := 0) rfl rfl (fun v3 u4 h => ?_)
    refine E_if_ne (tgt := 16) h dX9_showNow_11 (by decide) (fun h => ?_) (fun h => ?_)
    · refine E_aload_n dX9_showNow_16 rfl rfl ?_
      refine E_iconst (v := 2) dX9_showNow_17 (by decide) ?_
      refine F_Vv h (fun m e => tX9_remember e) dX9_showNow_18 hm_X9_remember hv_X9_remember ln_X9_412 rfl rfl (Nat.le_of_ble_eq_true rfl) (Nat.le_of_ble_eq_true rfl) (kc' := 0) (ks' := 0) rfl rfl (fun u5 h => ?_)
      refine E_aload_n dX9_showNow_21 rfl rfl ?_
      refine E_iload_n dX9_showNow_22 rfl rfl ?_
      refine E_iload_n dX9_showNow_23 rfl rfl ?_
      refine F_Vi h (fun a m e => tX9_showIt e) dX9_showNow_24 hm_X9_showIt hv_X9_showIt ln_X9_430 rfl rfl (Nat.le_of_ble_eq_true rfl) (Nat.le_of_ble_eq_true rfl) (kc' := 0) (ks' := 0) rfl rfl (fun v6 u7 h => ?_)
      exact E_iret h dX9_showNow_27 rfl
    · refine E_iconst (v := (-1)) dX9_showNow_14 (by decide) ?_
      exact E_iret h dX9_showNow_15 rfl
def fX9_show (u : Mm) (a0 : Nat) (x1 : Int32) (x2 : Int32) : Option (Int32 × Mm) := oK u a0 9 54 (oU (wI u a0 (upd (mI u a0) 0 0)) (fun u1 => oR u1 a0 9 (oB (fX9_showNow u1 a0 x1 x2) (fun v2 u3 => oR u3 a0 9 (oB (fX9_answer u3 a0 v2) (fun v4 u5 => some (v4, u5)))))))
set_option maxRecDepth 100000 in
set_option maxHeartbeats 4000000 in
theorem tX9_show {u : Mm} {a0 : Nat} {x1 : Int32} {x2 : Int32} {r : Int32} {u' : Mm} (h : fX9_show u a0 x1 x2 = some (r, u')) : Ev 7 MX9_show 0 0 [.ref a0, .int x1, .int x2] u (some (.int r), u') := by
  refine Ev.of (by decide +kernel) (Nat.le_of_ble_eq_true rfl) (show Eg MX9_show 7 0 0 (some (.int r), u') 0 [(0, .ref a0), (1, .int x1), (2, .int x2)] [] u from ?_)
  unfold fX9_show at h
  refine E_aload_n dX9_show_0 rfl rfl ?_
  refine E_iconst (v := 0) dX9_show_1 (by decide) ?_
  refine E_putI h dX9_show_2 cf9 lk_X9_134 (by decide) (Or.inl rfl) rfl (fun h => ?_)
  refine E_oU h (fun u1 h => ?_)
  refine E_aload_n dX9_show_5 rfl rfl ?_
  refine E_aload_n dX9_show_6 rfl rfl ?_
  refine E_iload_n dX9_show_7 rfl rfl ?_
  refine E_iload_n dX9_show_8 rfl rfl ?_
  refine F_Vi h (fun a m e => tX9_showNow e) dX9_show_9 hm_X9_showNow hv_X9_showNow ln_X9_433 rfl rfl (Nat.le_of_ble_eq_true rfl) (Nat.le_of_ble_eq_true rfl) (kc' := 0) (ks' := 0) rfl rfl (fun v2 u3 h => ?_)
  refine F_Vi h (fun a m e => tX9_answer e) dX9_show_12 hm_X9_answer hv_X9_answer ln_X9_143 rfl rfl (Nat.le_of_ble_eq_true rfl) (Nat.le_of_ble_eq_true rfl) (kc' := 0) (ks' := 0) rfl rfl (fun v4 u5 h => ?_)
  exact E_iret h dX9_show_15 rfl
def fX9_passIt (u : Mm) (a0 : Nat) : Option (Unit × Mm) := oR u a0 9 (oB (fX9_feedsOf u a0 0) (fun v1 u2 => oR u2 a0 9 (oB (fX9_feedsOf u2 a0 1) (fun v3 u4 => oK u4 a0 9 54 (oNn (mR u4 a0 3) (fun e5 => oK u4 a0 9 54 (oNn (mR u4 a0 3) (fun e6 => oA u4 e6 10 31 (oI (mI u4 e6 (Int32.toNatClampNeg 31)) (fun v7 => oB (fX9_within u4 (Int32.toInt64 (v7 + v1)) 0 999) (fun v8 u9 => oA u9 e5 10 31 (oU (wI u9 e5 (upd (mI u9 e5) (Int32.toNatClampNeg 31) v8)) (fun u10 => oK u10 a0 9 54 (oNn (mR u10 a0 3) (fun e11 => oK u10 a0 9 54 (oNn (mR u10 a0 3) (fun e12 => oA u10 e12 10 32 (oI (mI u10 e12 (Int32.toNatClampNeg 32)) (fun v13 => oB (fX9_within u10 (Int32.toInt64 (v13 + v3)) 0 999) (fun v14 u15 => oA u15 e11 10 32 (oU (wI u15 e11 (upd (mI u15 e11) (Int32.toNatClampNeg 32) v14)) (fun u16 => oK u16 a0 9 54 (oNn (mR u16 a0 3) (fun e17 => oA u16 e17 10 4 (oI (mI u16 e17 (Int32.toNatClampNeg 4)) (fun v18 => oA u16 e17 10 4 (oU (wI u16 e17 (upd (mI u16 e17) (Int32.toNatClampNeg 4) (v18 + 1))) (fun u19 => some ((), u19)))))))))))))))))))))))))))))
set_option maxRecDepth 100000 in
set_option maxHeartbeats 4000000 in
theorem tX9_passIt {u : Mm} {a0 : Nat} {r : Unit} {u' : Mm} (h : fX9_passIt u a0 = some (r, u')) : Ev 5 MX9_passIt 0 0 [.ref a0] u (none, u') := by
  refine Ev.of (by decide +kernel) (Nat.le_of_ble_eq_true rfl) (show Eg MX9_passIt 5 0 0 (none, u') 0 [(0, .ref a0)] [] u from ?_)
  unfold fX9_passIt at h
  refine E_aload_n dX9_passIt_0 rfl rfl ?_
  refine E_iconst (v := 0) dX9_passIt_1 (by decide) ?_
  refine F_Vi h (fun a m e => tX9_feedsOf e) dX9_passIt_2 hm_X9_feedsOf hv_X9_feedsOf ln_X9_186 rfl rfl (Nat.le_of_ble_eq_true rfl) (Nat.le_of_ble_eq_true rfl) (kc' := 0) (ks' := 0) rfl rfl (fun v1 u2 h => ?_)
  refine E_istore_n (l' := [(1, .int v1), (0, .ref a0)]) dX9_passIt_5 rfl (Nat.le_of_ble_eq_true rfl) rfl ?_
  refine E_aload_n dX9_passIt_6 rfl rfl ?_
  refine E_iconst (v := 1) dX9_passIt_7 (by decide) ?_
  refine F_Vi h (fun a m e => tX9_feedsOf e) dX9_passIt_8 hm_X9_feedsOf hv_X9_feedsOf ln_X9_186 rfl rfl (Nat.le_of_ble_eq_true rfl) (Nat.le_of_ble_eq_true rfl) (kc' := 0) (ks' := 0) rfl rfl (fun v3 u4 h => ?_)
  refine E_istore_n (l' := [(2, .int v3), (1, .int v1), (0, .ref a0)]) dX9_passIt_11 rfl (Nat.le_of_ble_eq_true rfl) rfl ?_
  refine E_aload_n dX9_passIt_12 rfl rfl ?_
  refine E_getA h dX9_passIt_13 cf9 lk_X9_13 (by decide) (fun _ _ _ => rfl) (fun e5 h => ?_)
  refine E_bipush (v := 31) dX9_passIt_16 (by decide) ?_
  refine E_aload_n dX9_passIt_18 rfl rfl ?_
  refine E_getA h dX9_passIt_19 cf9 lk_X9_13 (by decide) (fun _ _ _ => rfl) (fun e6 h => ?_)
  refine E_bipush (v := 31) dX9_passIt_22 (by decide) ?_
  refine E_iald h dX9_passIt_24 (fun h => ?_)
  refine E_oI h (fun v7 h => ?_)
  refine E_iload_n dX9_passIt_25 rfl rfl ?_
  refine E_iadd dX9_passIt_26 ?_
  refine E_i2l dX9_passIt_27 ?_
  refine E_iconst (v := 0) dX9_passIt_28 (by decide) ?_
  refine E_sipush (v := 999) dX9_passIt_29 (by decide) ?_
  refine F_Si h (fun a m e => tX9_within e) dX9_passIt_32 hm_X9_within hs_X9_within ln_X9_398 rfl rfl (Nat.le_of_ble_eq_true rfl) (Nat.le_of_ble_eq_true rfl) (kc' := 0) (ks' := 0) rfl rfl (fun v8 u9 h => ?_)
  refine E_iast h dX9_passIt_35 (fun h => ?_)
  refine E_oU h (fun u10 h => ?_)
  refine E_aload_n dX9_passIt_36 rfl rfl ?_
  refine E_getA h dX9_passIt_37 cf9 lk_X9_13 (by decide) (fun _ _ _ => rfl) (fun e11 h => ?_)
  refine E_bipush (v := 32) dX9_passIt_40 (by decide) ?_
  refine E_aload_n dX9_passIt_42 rfl rfl ?_
  refine E_getA h dX9_passIt_43 cf9 lk_X9_13 (by decide) (fun _ _ _ => rfl) (fun e12 h => ?_)
  refine E_bipush (v := 32) dX9_passIt_46 (by decide) ?_
  refine E_iald h dX9_passIt_48 (fun h => ?_)
  refine E_oI h (fun v13 h => ?_)
  refine E_iload_n dX9_passIt_49 rfl rfl ?_
  refine E_iadd dX9_passIt_50 ?_
  refine E_i2l dX9_passIt_51 ?_
  refine E_iconst (v := 0) dX9_passIt_52 (by decide) ?_
  refine E_sipush (v := 999) dX9_passIt_53 (by decide) ?_
  refine F_Si h (fun a m e => tX9_within e) dX9_passIt_56 hm_X9_within hs_X9_within ln_X9_398 rfl rfl (Nat.le_of_ble_eq_true rfl) (Nat.le_of_ble_eq_true rfl) (kc' := 0) (ks' := 0) rfl rfl (fun v14 u15 h => ?_)
  refine E_iast h dX9_passIt_59 (fun h => ?_)
  refine E_oU h (fun u16 h => ?_)
  refine E_aload_n dX9_passIt_60 rfl rfl ?_
  refine E_getA h dX9_passIt_61 cf9 lk_X9_13 (by decide) (fun _ _ _ => rfl) (fun e17 h => ?_)
  refine E_iconst (v := 4) dX9_passIt_64 (by decide) ?_
  refine E_dup2 dX9_passIt_65 rfl rfl ?_
  refine E_iald h dX9_passIt_66 (fun h => ?_)
  refine E_oI h (fun v18 h => ?_)
  refine E_iconst (v := 1) dX9_passIt_67 (by decide) ?_
  refine E_iadd dX9_passIt_68 ?_
  refine E_iast h dX9_passIt_69 (fun h => ?_)
  refine E_oU h (fun u19 h => ?_)
  exact E_vret h dX9_passIt_70 rfl
def fX9_passNow (u : Mm) (a0 : Nat) : Option (Int32 × Mm) := oK u a0 9 54 (oNn (mR u a0 3) (fun e1 => oA u e1 10 4 (oI (mI u e1 (Int32.toNatClampNeg 4)) (fun v2 => (if (v2 : Int32) = 999 then some ((-3), u) else oR u a0 9 (oB (fX9_remember u a0 3) (fun _ u3 => oR u3 a0 9 (oB (fX9_passIt u3 a0) (fun _ u4 => oK u4 a0 9 54 (oNn (mR u4 a0 3) (fun e5 => oA u4 e5 10 4 (oI (mI u4 e5 (Int32.toNatClampNeg 4)) (fun v6 => some (v6, u4))))))))))))))
set_option maxRecDepth 100000 in
set_option maxHeartbeats 4000000 in
theorem tX9_passNow {u : Mm} {a0 : Nat} {r : Int32} {u' : Mm} (h : fX9_passNow u a0 = some (r, u')) : Ev 6 MX9_passNow 0 0 [.ref a0] u (some (.int r), u') := by
  refine Ev.of (by decide +kernel) (Nat.le_of_ble_eq_true rfl) (show Eg MX9_passNow 6 0 0 (some (.int r), u') 0 [(0, .ref a0)] [] u from ?_)
  unfold fX9_passNow at h
  refine E_aload_n dX9_passNow_0 rfl rfl ?_
  refine E_getA h dX9_passNow_1 cf9 lk_X9_13 (by decide) (fun _ _ _ => rfl) (fun e1 h => ?_)
  refine E_iconst (v := 4) dX9_passNow_4 (by decide) ?_
  refine E_iald h dX9_passNow_5 (fun h => ?_)
  refine E_oI h (fun v2 h => ?_)
  refine E_sipush (v := 999) dX9_passNow_6 (by decide) ?_
  refine E_ic_ne (tgt := 15) h dX9_passNow_9 (by decide) (fun h => ?_) (fun h => ?_)
  · refine E_aload_n dX9_passNow_15 rfl rfl ?_
    refine E_iconst (v := 3) dX9_passNow_16 (by decide) ?_
    refine F_Vv h (fun m e => tX9_remember e) dX9_passNow_17 hm_X9_remember hv_X9_remember ln_X9_412 rfl rfl (Nat.le_of_ble_eq_true rfl) (Nat.le_of_ble_eq_true rfl) (kc' := 0) (ks' := 0) rfl rfl (fun u3 h => ?_)
    refine E_aload_n dX9_passNow_20 rfl rfl ?_
    refine F_Vv h (fun m e => tX9_passIt e) dX9_passNow_21 hm_X9_passIt hv_X9_passIt ln_X9_436 rfl rfl (Nat.le_of_ble_eq_true rfl) (Nat.le_of_ble_eq_true rfl) (kc' := 0) (ks' := 0) rfl rfl (fun u4 h => ?_)
    refine E_aload_n dX9_passNow_24 rfl rfl ?_
    refine E_getA h dX9_passNow_25 cf9 lk_X9_13 (by decide) (fun _ _ _ => rfl) (fun e5 h => ?_)
    refine E_iconst (v := 4) dX9_passNow_28 (by decide) ?_
    refine E_iald h dX9_passNow_29 (fun h => ?_)
    refine E_oI h (fun v6 h => ?_)
    exact E_iret h dX9_passNow_30 rfl
  · refine E_bipush (v := (-3)) dX9_passNow_12 (by decide) ?_
    exact E_iret h dX9_passNow_14 rfl
def fX9_pass (u : Mm) (a0 : Nat) : Option (Int32 × Mm) := oK u a0 9 54 (oU (wI u a0 (upd (mI u a0) 0 0)) (fun u1 => oR u1 a0 9 (oB (fX9_passNow u1 a0) (fun v2 u3 => oR u3 a0 9 (oB (fX9_answer u3 a0 v2) (fun v4 u5 => some (v4, u5)))))))
set_option maxRecDepth 100000 in
set_option maxHeartbeats 4000000 in
theorem tX9_pass {u : Mm} {a0 : Nat} {r : Int32} {u' : Mm} (h : fX9_pass u a0 = some (r, u')) : Ev 7 MX9_pass 0 0 [.ref a0] u (some (.int r), u') := by
  refine Ev.of (by decide +kernel) (Nat.le_of_ble_eq_true rfl) (show Eg MX9_pass 7 0 0 (some (.int r), u') 0 [(0, .ref a0)] [] u from ?_)
  unfold fX9_pass at h
  refine E_aload_n dX9_pass_0 rfl rfl ?_
  refine E_iconst (v := 0) dX9_pass_1 (by decide) ?_
  refine E_putI h dX9_pass_2 cf9 lk_X9_134 (by decide) (Or.inl rfl) rfl (fun h => ?_)
  refine E_oU h (fun u1 h => ?_)
  refine E_aload_n dX9_pass_5 rfl rfl ?_
  refine E_aload_n dX9_pass_6 rfl rfl ?_
  refine F_Vi h (fun a m e => tX9_passNow e) dX9_pass_7 hm_X9_passNow hv_X9_passNow ln_X9_439 rfl rfl (Nat.le_of_ble_eq_true rfl) (Nat.le_of_ble_eq_true rfl) (kc' := 0) (ks' := 0) rfl rfl (fun v2 u3 h => ?_)
  refine F_Vi h (fun a m e => tX9_answer e) dX9_pass_10 hm_X9_answer hv_X9_answer ln_X9_143 rfl rfl (Nat.le_of_ble_eq_true rfl) (Nat.le_of_ble_eq_true rfl) (kc' := 0) (ks' := 0) rfl rfl (fun v4 u5 h => ?_)
  exact E_iret h dX9_pass_13 rfl
def bX9_worthOf_40 (k5 : Mm → Nat → Int32 → Int32 → Int32 → Int32 → Option (Int32 × Mm)) (u : Mm) (a0 : Nat) (x1 : Int32) (x2 : Int32) (x4 : Int32) (s0 : Int32) (s1 : Int32) : Option (Int32 × Mm) := oI (s1 + s0) (fun v3 => k5 u a0 x1 x2 v3 (x4 + 1))
set_option maxRecDepth 100000 in
set_option maxHeartbeats 4000000 in
theorem pX9_worthOf_40 {r : Int32} {u' : Mm} {k5 : Mm → Nat → Int32 → Int32 → Int32 → Int32 → Option (Int32 × Mm)} (hk5 : ∀ (u : Mm) (a0 : Nat) (x1 : Int32) (x2 : Int32) (x3 : Int32) (x4 : Int32), k5 u a0 x1 x2 x3 x4 = some (r, u') → Eg MX9_worthOf 1 0 0 (some (.int r), u') 5 [(0, .ref a0), (1, .int x1), (2, .int x2), (3, .int x3), (4, .int x4)] [] u) (u : Mm) (a0 : Nat) (x1 : Int32) (x2 : Int32) (x4 : Int32) (s0 : Int32) (s1 : Int32) (h : bX9_worthOf_40 k5 u a0 x1 x2 x4 s0 s1 = some (r, u')) : Eg MX9_worthOf 1 0 0 (some (.int r), u') 40 [(0, .ref a0), (1, .int x1), (2, .int x2), (4, .int x4)] [.int s0, .int s1] u := by
  unfold bX9_worthOf_40 at h
  refine E_iadd dX9_worthOf_40 ?_
  refine E_oI h (fun v3 h => ?_)
  refine E_istore_n (l' := [(3, .int v3), (0, .ref a0), (1, .int x1), (2, .int x2), (4, .int x4)]) dX9_worthOf_41 rfl (Nat.le_of_ble_eq_true rfl) rfl ?_
  refine E_iinc (j := 4) (v := x4 + 1) (l' := [(4, .int (x4 + 1)), (3, .int v3), (0, .ref a0), (1, .int x1), (2, .int x2)]) dX9_worthOf_42 rfl (addI (by decide)) (Nat.le_of_ble_eq_true rfl) rfl ?_
  refine E_goto (tgt := 5) dX9_worthOf_45 (by decide) ?_
  refine Eg.pick [2, 3, 4, 1, 0] rfl ?_
  exact hk5 _ _ _ _ _ _ h
def bX9_worthOf_5 (k5 : Mm → Nat → Int32 → Int32 → Int32 → Int32 → Option (Int32 × Mm)) (u : Mm) (a0 : Nat) (x1 : Int32) (x2 : Int32) (x3 : Int32) (x4 : Int32) : Option (Int32 × Mm) := (if (8 : Int32) ≤ x4 then some (x3, u) else oB (fX9_is u x1 x4) (fun v1 u2 => (if (v1 : Int32) = 0 then bX9_worthOf_40 k5 u2 a0 x1 x2 x4 0 x3 else oK u2 a0 9 54 (oNn (mR u2 a0 3) (fun e4 => oA u2 e4 10 (((67 : Int32) + ((2 : Int32) * x4)) + x2) (oI (mI u2 e4 (Int32.toNatClampNeg (((67 : Int32) + ((2 : Int32) * x4)) + x2))) (fun v5 => bX9_worthOf_40 k5 u2 a0 x1 x2 x4 v5 x3)))))))
set_option maxRecDepth 100000 in
set_option maxHeartbeats 4000000 in
theorem pX9_worthOf_5 {r : Int32} {u' : Mm} {k5 : Mm → Nat → Int32 → Int32 → Int32 → Int32 → Option (Int32 × Mm)} (hk5 : ∀ (u : Mm) (a0 : Nat) (x1 : Int32) (x2 : Int32) (x3 : Int32) (x4 : Int32), k5 u a0 x1 x2 x3 x4 = some (r, u') → Eg MX9_worthOf 1 0 0 (some (.int r), u') 5 [(0, .ref a0), (1, .int x1), (2, .int x2), (3, .int x3), (4, .int x4)] [] u) (u : Mm) (a0 : Nat) (x1 : Int32) (x2 : Int32) (x3 : Int32) (x4 : Int32) (h : bX9_worthOf_5 k5 u a0 x1 x2 x3 x4 = some (r, u')) : Eg MX9_worthOf 1 0 0 (some (.int r), u') 5 [(0, .ref a0), (1, .int x1), (2, .int x2), (3, .int x3), (4, .int x4)] [] u := by
  unfold bX9_worthOf_5 at h
  refine E_iload dX9_worthOf_5 rfl ?_
  refine E_bipush (v := 8) dX9_worthOf_7 (by decide) ?_
  refine E_ic_ge (tgt := 48) h dX9_worthOf_9 (by decide) (fun h => ?_) (fun h => ?_)
  · refine E_iload_n dX9_worthOf_48 rfl rfl ?_
    exact E_iret h dX9_worthOf_49 rfl
  · refine E_iload_n dX9_worthOf_12 rfl rfl ?_
    refine E_iload_n dX9_worthOf_13 rfl rfl ?_
    refine E_iload dX9_worthOf_14 rfl ?_
    refine F_Si h (fun a m e => tX9_is e) dX9_worthOf_16 hm_X9_is hs_X9_is ln_X9_442 rfl rfl (Nat.le_of_ble_eq_true rfl) (Nat.le_of_ble_eq_true rfl) (kc' := 0) (ks' := 0) rfl rfl (fun v1 u2 h => ?_)
    refine E_if_eq (tgt := 39) h dX9_worthOf_19 (by decide) (fun h => ?_) (fun h => ?_)
    · refine E_iconst (v := 0) dX9_worthOf_39 (by decide) ?_
      refine Eg.pick [0, 1, 2, 4] rfl ?_
      exact pX9_worthOf_40 hk5 _ _ _ _ _ _ _ h
    · refine E_aload_n dX9_worthOf_22 rfl rfl ?_
      refine E_getA h dX9_worthOf_23 cf9 lk_X9_13 (by decide) (fun _ _ _ => rfl) (fun e4 h => ?_)
      refine E_bipush (v := 67) dX9_worthOf_26 (by decide) ?_
      refine E_iconst (v := 2) dX9_worthOf_28 (by decide) ?_
      refine E_iload dX9_worthOf_29 rfl ?_
      refine E_imul dX9_worthOf_31 ?_
      refine E_iadd dX9_worthOf_32 ?_
      refine E_iload_n dX9_worthOf_33 rfl rfl ?_
      refine E_iadd dX9_worthOf_34 ?_
      refine E_iald h dX9_worthOf_35 (fun h => ?_)
      refine E_oI h (fun v5 h => ?_)
      refine E_goto (tgt := 40) dX9_worthOf_36 (by decide) ?_
      refine Eg.pick [0, 1, 2, 4] rfl ?_
      exact pX9_worthOf_40 hk5 _ _ _ _ _ _ _ h
def rX9_worthOf_5 : Nat → Mm → Nat → Int32 → Int32 → Int32 → Int32 → Option (Int32 × Mm)
  | 0, _, _, _, _, _, _ => none
  | n + 1, u, a0, x1, x2, x3, x4 => bX9_worthOf_5 (rX9_worthOf_5 n) u a0 x1 x2 x3 x4
theorem prX9_worthOf_5 {r : Int32} {u' : Mm} : ∀ (n : Nat) (u : Mm) (a0 : Nat) (x1 : Int32) (x2 : Int32) (x3 : Int32) (x4 : Int32), rX9_worthOf_5 n u a0 x1 x2 x3 x4 = some (r, u') → Eg MX9_worthOf 1 0 0 (some (.int r), u') 5 [(0, .ref a0), (1, .int x1), (2, .int x2), (3, .int x3), (4, .int x4)] [] u
  | 0, _, _, _, _, _, _, h => by cases h
  | n + 1, u, a0, x1, x2, x3, x4, h => pX9_worthOf_5 (prX9_worthOf_5 n) u a0 x1 x2 x3 x4 h
def fX9_worthOf (u : Mm) (a0 : Nat) (x1 : Int32) (x2 : Int32) : Option (Int32 × Mm) := rX9_worthOf_5 hwF u a0 x1 x2 0 0
set_option maxRecDepth 100000 in
set_option maxHeartbeats 4000000 in
theorem tX9_worthOf {u : Mm} {a0 : Nat} {x1 : Int32} {x2 : Int32} {r : Int32} {u' : Mm} (h : fX9_worthOf u a0 x1 x2 = some (r, u')) : Ev 1 MX9_worthOf 0 0 [.ref a0, .int x1, .int x2] u (some (.int r), u') := by
  refine Ev.of (by decide +kernel) (Nat.le_of_ble_eq_true rfl) (show Eg MX9_worthOf 1 0 0 (some (.int r), u') 0 [(0, .ref a0), (1, .int x1), (2, .int x2)] [] u from ?_)
  unfold fX9_worthOf at h
  refine E_iconst (v := 0) dX9_worthOf_0 (by decide) ?_
  refine E_istore_n (l' := [(3, .int 0), (0, .ref a0), (1, .int x1), (2, .int x2)]) dX9_worthOf_1 rfl (Nat.le_of_ble_eq_true rfl) rfl ?_
  refine E_iconst (v := 0) dX9_worthOf_2 (by decide) ?_
  refine E_istore (l' := [(4, .int 0), (3, .int 0), (0, .ref a0), (1, .int x1), (2, .int x2)]) dX9_worthOf_3 (Nat.le_of_ble_eq_true rfl) rfl ?_
  refine Eg.pick [2, 3, 4, 1, 0] rfl ?_
  exact prX9_worthOf_5 _ _ _ _ _ _ _ h
