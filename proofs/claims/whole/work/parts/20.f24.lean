/-! ===== methods as functions, with their contracts (printed by program) ===== -/
def fX9_stopped (u : Mm) (a0 : Nat) : Option (Int32 × Mm) := oK u a0 9 54 (oU (wI u a0 (upd (mI u a0) 0 0)) (fun u1 => oK u1 a0 9 54 (oI (mI u1 a0 49) (fun v2 => some (v2, u1)))))
set_option maxRecDepth 100000 in
set_option maxHeartbeats 4000000 in
theorem tX9_stopped {u : Mm} {a0 : Nat} {r : Int32} {u' : Mm} (h : fX9_stopped u a0 = some (r, u')) : Ev 0 MX9_stopped 0 0 [.ref a0] u (some (.int r), u') := by
  refine Ev.of (by decide +kernel) (Nat.le_of_ble_eq_true rfl) (show Eg MX9_stopped 0 0 0 (some (.int r), u') 0 [(0, .ref a0)] [] u from ?_)
  unfold fX9_stopped at h
  refine E_aload_n dX9_stopped_0 rfl rfl ?_
  refine E_iconst (v := 0) dX9_stopped_1 (by decide) ?_
  refine E_putI h dX9_stopped_2 cf9 lk_X9_134 (by decide) (Or.inl rfl) rfl (fun h => ?_)
  refine E_oU h (fun u1 h => ?_)
  refine E_aload_n dX9_stopped_5 rfl rfl ?_
  refine E_getI h dX9_stopped_6 cf9 lk_X9_128 (by decide) (fun _ _ _ => rfl) (fun h => ?_)
  refine E_oI h (fun v2 h => ?_)
  exact E_iret h dX9_stopped_9 rfl
def fX9_draw (u : Mm) (a0 : Nat) (x1 : Int32) : Option (Int32 × Mm) := oK u a0 9 54 (oJ (mL u a0 51) (fun w1 => (if (1000003 : Int64) ≠ 0 then oK u a0 9 54 (oU (wL u a0 (vp_updL (mL u a0) 51 (((w1 * 1103) + 12345) - ((w1 * 1103) + 12345) / 1000003 * 1000003))) (fun u2 => oK u2 a0 9 54 (oJ (mL u2 a0 51) (fun w3 => (if (Int32.toInt64 x1 : Int64) ≠ 0 then some (Int64.toInt32 (w3 - w3 / (Int32.toInt64 x1) * (Int32.toInt64 x1)), u2) else none))))) else none)))
set_option maxRecDepth 100000 in
set_option maxHeartbeats 4000000 in
theorem tX9_draw {u : Mm} {a0 : Nat} {x1 : Int32} {r : Int32} {u' : Mm} (h : fX9_draw u a0 x1 = some (r, u')) : Ev 0 MX9_draw 0 0 [.ref a0, .int x1] u (some (.int r), u') := by
  refine Ev.of (by decide +kernel) (Nat.le_of_ble_eq_true rfl) (show Eg MX9_draw 0 0 0 (some (.int r), u') 0 [(0, .ref a0), (1, .int x1)] [] u from ?_)
  unfold fX9_draw at h
  refine E_aload_n dX9_draw_0 rfl rfl ?_
  refine E_aload_n dX9_draw_1 rfl rfl ?_
  refine E_getL h dX9_draw_2 cf9 lk_X9_530 (by decide) (fun _ _ _ => rfl) (fun h => ?_)
  refine E_oJ h (fun w1 h => ?_)
  refine E_ldc2 dX9_draw_5 rfl cn_X9_533 ?_
  refine E_lmul dX9_draw_8 ?_
  refine E_ldc2 dX9_draw_9 rfl cn_X9_535 ?_
  refine E_ladd dX9_draw_12 ?_
  refine E_ldc2 dX9_draw_13 rfl cn_X9_537 ?_
  refine E_lrem h dX9_draw_16 (fun h => ?_)
  refine E_putL h dX9_draw_17 cf9 lk_X9_530 (by decide) (Or.inl rfl) rfl (fun h => ?_)
  refine E_oU h (fun u2 h => ?_)
  refine E_aload_n dX9_draw_20 rfl rfl ?_
  refine E_getL h dX9_draw_21 cf9 lk_X9_530 (by decide) (fun _ _ _ => rfl) (fun h => ?_)
  refine E_oJ h (fun w3 h => ?_)
  refine E_iload_n dX9_draw_24 rfl rfl ?_
  refine E_i2l dX9_draw_25 ?_
  refine E_lrem h dX9_draw_26 (fun h => ?_)
  refine E_l2i dX9_draw_27 ?_
  exact E_iret h dX9_draw_28 rfl
def bX9_decades_29 (u : Mm) (a0 : Nat) : Option (Int32 × Mm) := oR u a0 9 (oB (fX9_answer u a0 ((-1))) (fun v4 u5 => some (v4, u5)))
set_option maxRecDepth 100000 in
set_option maxHeartbeats 4000000 in
theorem pX9_decades_29 {r : Int32} {u' : Mm} (u : Mm) (a0 : Nat) (h : bX9_decades_29 u a0 = some (r, u')) : Eg MX9_decades 6 0 0 (some (.int r), u') 29 [(0, .ref a0)] [] u := by
  unfold bX9_decades_29 at h
  refine E_aload_n dX9_decades_29 rfl rfl ?_
  refine E_iconst (v := (-1)) dX9_decades_30 (by decide) ?_
  refine F_Vi h (fun a m e => tX9_answer e) dX9_decades_31 hm_X9_answer hv_X9_answer ln_X9_143 rfl rfl (Nat.le_of_ble_eq_true rfl) (Nat.le_of_ble_eq_true rfl) (kc' := 0) (ks' := 0) rfl rfl (fun v4 u5 h => ?_)
  exact E_iret h dX9_decades_34 rfl
def bX9_decades_147 (k147 : Mm → Nat → Int32 → Int32 → Option (Int32 × Mm)) (u : Mm) (a0 : Nat) (x3 : Int32) (x4 : Int32) : Option (Int32 × Mm) := (if (31 : Int32) ≤ x4 then oK u a0 9 54 (oZ 1 (oU (wI u a0 (upd (mI u a0) 53 1)) (fun u10 => oR u10 a0 9 (oB (fX9_putBack u10 a0 16) (fun _ u11 => oR u11 a0 9 (oB (fX9_answer u11 a0 x3) (fun v12 u13 => some (v12, u13)))))))) else oK u a0 9 54 (oNn (mR u a0 52) (fun e14 => oK u a0 9 54 (oNn (mR u a0 3) (fun e15 => oA u e15 10 ((4 : Int32) + x4) (oI (mI u e15 (Int32.toNatClampNeg ((4 : Int32) + x4))) (fun v16 => oA u e14 10 x4 (oU (wI u e14 (upd (mI u e14) (Int32.toNatClampNeg x4) v16)) (fun u17 => k147 u17 a0 x3 (x4 + 1))))))))))
set_option maxRecDepth 100000 in
set_option maxHeartbeats 4000000 in
theorem pX9_decades_147 {r : Int32} {u' : Mm} {k147 : Mm → Nat → Int32 → Int32 → Option (Int32 × Mm)} (hk147 : ∀ (u : Mm) (a0 : Nat) (x3 : Int32) (x4 : Int32), k147 u a0 x3 x4 = some (r, u') → Eg MX9_decades 6 0 0 (some (.int r), u') 147 [(0, .ref a0), (3, .int x3), (4, .int x4)] [] u) (u : Mm) (a0 : Nat) (x3 : Int32) (x4 : Int32) (h : bX9_decades_147 k147 u a0 x3 x4 = some (r, u')) : Eg MX9_decades 6 0 0 (some (.int r), u') 147 [(0, .ref a0), (3, .int x3), (4, .int x4)] [] u := by
  unfold bX9_decades_147 at h
  refine E_iload dX9_decades_147 rfl ?_
  refine E_bipush (v := 31) dX9_decades_149 (by decide) ?_
  refine E_ic_ge (tgt := 176) h dX9_decades_151 (by decide) (fun h => ?_) (fun h => ?_)
  · refine E_aload_n dX9_decades_176 rfl rfl ?_
    refine E_iconst (v := 1) dX9_decades_177 (by decide) ?_
    refine E_putZ h dX9_decades_178 cf9 lk_X9_542 (by decide) (Or.inl rfl) rfl (fun h => ?_)
    refine E_oU h (fun u10 h => ?_)
    refine E_aload_n dX9_decades_181 rfl rfl ?_
    refine E_bipush (v := 16) dX9_decades_182 (by decide) ?_
    refine F_Vv h (fun m e => tX9_putBack e) dX9_decades_184 hm_X9_putBack hv_X9_putBack ln_X9_151 rfl rfl (Nat.le_of_ble_eq_true rfl) (Nat.le_of_ble_eq_true rfl) (kc' := 0) (ks' := 0) rfl rfl (fun u11 h => ?_)
    refine E_aload_n dX9_decades_187 rfl rfl ?_
    refine E_iload_n dX9_decades_188 rfl rfl ?_
    refine F_Vi h (fun a m e => tX9_answer e) dX9_decades_189 hm_X9_answer hv_X9_answer ln_X9_143 rfl rfl (Nat.le_of_ble_eq_true rfl) (Nat.le_of_ble_eq_true rfl) (kc' := 0) (ks' := 0) rfl rfl (fun v12 u13 h => ?_)
    exact E_iret h dX9_decades_192 rfl
  · refine E_aload_n dX9_decades_154 rfl rfl ?_
    refine E_getA h dX9_decades_155 cf9 lk_X9_131 (by decide) (fun _ _ _ => rfl) (fun e14 h => ?_)
    refine E_iload dX9_decades_158 rfl ?_
    refine E_aload_n dX9_decades_160 rfl rfl ?_
    refine E_getA h dX9_decades_161 cf9 lk_X9_13 (by decide) (fun _ _ _ => rfl) (fun e15 h => ?_)
    refine E_iconst (v := 4) dX9_decades_164 (by decide) ?_
    refine E_iload dX9_decades_165 rfl ?_
    refine E_iadd dX9_decades_167 ?_
    refine E_iald h dX9_decades_168 (fun h => ?_)
    refine E_oI h (fun v16 h => ?_)
    refine E_iast h dX9_decades_169 (fun h => ?_)
    refine E_oU h (fun u17 h => ?_)
    refine E_iinc (j := 2) (v := x4 + 1) (l' := [(4, .int (x4 + 1)), (0, .ref a0), (3, .int x3)]) dX9_decades_170 rfl (addI (by decide)) (Nat.le_of_ble_eq_true rfl) rfl ?_
    refine E_goto (tgt := 147) dX9_decades_173 (by decide) ?_
    refine Eg.pick [1, 2, 0] rfl ?_
    exact hk147 _ _ _ _ h
def rX9_decades_147 : Nat → Mm → Nat → Int32 → Int32 → Option (Int32 × Mm)
  | 0, _, _, _, _ => none
  | n + 1, u, a0, x3, x4 => bX9_decades_147 (rX9_decades_147 n) u a0 x3 x4
theorem prX9_decades_147 {r : Int32} {u' : Mm} : ∀ (n : Nat) (u : Mm) (a0 : Nat) (x3 : Int32) (x4 : Int32), rX9_decades_147 n u a0 x3 x4 = some (r, u') → Eg MX9_decades 6 0 0 (some (.int r), u') 147 [(0, .ref a0), (3, .int x3), (4, .int x4)] [] u
  | 0, _, _, _, _, h => by cases h
  | n + 1, u, a0, x3, x4, h => pX9_decades_147 (prX9_decades_147 n) u a0 x3 x4 h
def bX9_decades_144 (u : Mm) (a0 : Nat) (x3 : Int32) : Option (Int32 × Mm) := rX9_decades_147 hwF u a0 x3 0
set_option maxRecDepth 100000 in
set_option maxHeartbeats 4000000 in
theorem pX9_decades_144 {r : Int32} {u' : Mm} (u : Mm) (a0 : Nat) (x3 : Int32) (h : bX9_decades_144 u a0 x3 = some (r, u')) : Eg MX9_decades 6 0 0 (some (.int r), u') 144 [(0, .ref a0), (3, .int x3)] [] u := by
  unfold bX9_decades_144 at h
  refine E_iconst (v := 0) dX9_decades_144 (by decide) ?_
  refine E_istore (l' := [(4, .int 0), (0, .ref a0), (3, .int x3)]) dX9_decades_145 (Nat.le_of_ble_eq_true rfl) rfl ?_
  refine Eg.pick [1, 2, 0] rfl ?_
  exact prX9_decades_147 _ _ _ _ _ h
def bX9_decades_134 (k52 : Mm → Nat → Int32 → Int32 → Int32 → Option (Int32 × Mm)) (u : Mm) (a0 : Nat) (x2 : Int32) (x3 : Int32) (x4 : Int32) : Option (Int32 × Mm) := oR u a0 9 (oB (fX9_passIt u a0) (fun _ u26 => k52 u26 a0 x2 x3 (x4 + 1)))
set_option maxRecDepth 100000 in
set_option maxHeartbeats 4000000 in
theorem pX9_decades_134 {r : Int32} {u' : Mm} {k52 : Mm → Nat → Int32 → Int32 → Int32 → Option (Int32 × Mm)} (hk52 : ∀ (u : Mm) (a0 : Nat) (x2 : Int32) (x3 : Int32) (x4 : Int32), k52 u a0 x2 x3 x4 = some (r, u') → Eg MX9_decades 6 0 0 (some (.int r), u') 52 [(0, .ref a0), (2, .int x2), (3, .int x3), (4, .int x4)] [] u) (u : Mm) (a0 : Nat) (x2 : Int32) (x3 : Int32) (x4 : Int32) (h : bX9_decades_134 k52 u a0 x2 x3 x4 = some (r, u')) : Eg MX9_decades 6 0 0 (some (.int r), u') 134 [(0, .ref a0), (2, .int x2), (3, .int x3), (4, .int x4)] [] u := by
  unfold bX9_decades_134 at h
  refine E_aload_n dX9_decades_134 rfl rfl ?_
  refine F_Vv h (fun m e => tX9_passIt e) dX9_decades_135 hm_X9_passIt hv_X9_passIt ln_X9_436 rfl rfl (Nat.le_of_ble_eq_true rfl) (Nat.le_of_ble_eq_true rfl) (kc' := 0) (ks' := 0) rfl rfl (fun u26 h => ?_)
  refine E_iinc (j := 3) (v := x4 + 1) (l' := [(4, .int (x4 + 1)), (0, .ref a0), (2, .int x2), (3, .int x3)]) dX9_decades_138 rfl (addI (by decide)) (Nat.le_of_ble_eq_true rfl) rfl ?_
  refine E_goto (tgt := 52) dX9_decades_141 (by decide) ?_
  refine Eg.pick [1, 2, 3, 0] rfl ?_
  exact hk52 _ _ _ _ _ h
def bX9_decades_119 (k52 : Mm → Nat → Int32 → Int32 → Int32 → Option (Int32 × Mm)) (u : Mm) (a0 : Nat) (x2 : Int32) (x3 : Int32) (x4 : Int32) (x5 : Int32) (x6 : Int32) (x7 : Int32) : Option (Int32 × Mm) := (if (x7 : Int32) = 1 then oR u a0 9 (oB (fX9_showIt u a0 x6 x5) (fun v27 u28 => bX9_decades_134 k52 u28 a0 x2 x3 x4)) else bX9_decades_134 k52 u a0 x2 x3 x4)
set_option maxRecDepth 100000 in
set_option maxHeartbeats 4000000 in
theorem pX9_decades_119 {r : Int32} {u' : Mm} {k52 : Mm → Nat → Int32 → Int32 → Int32 → Option (Int32 × Mm)} (hk52 : ∀ (u : Mm) (a0 : Nat) (x2 : Int32) (x3 : Int32) (x4 : Int32), k52 u a0 x2 x3 x4 = some (r, u') → Eg MX9_decades 6 0 0 (some (.int r), u') 52 [(0, .ref a0), (2, .int x2), (3, .int x3), (4, .int x4)] [] u) (u : Mm) (a0 : Nat) (x2 : Int32) (x3 : Int32) (x4 : Int32) (x5 : Int32) (x6 : Int32) (x7 : Int32) (h : bX9_decades_119 k52 u a0 x2 x3 x4 x5 x6 x7 = some (r, u')) : Eg MX9_decades 6 0 0 (some (.int r), u') 119 [(0, .ref a0), (2, .int x2), (3, .int x3), (4, .int x4), (5, .int x5), (6, .int x6), (7, .int x7)] [] u := by
  unfold bX9_decades_119 at h
  refine E_iload dX9_decades_119 rfl ?_
  refine E_iconst (v := 1) dX9_decades_121 (by decide) ?_
  refine E_ic_ne (tgt := 134) h dX9_decades_122 (by decide) (fun h => ?_) (fun h => ?_)
  · refine Eg.pick [0, 1, 2, 3] rfl ?_
    exact pX9_decades_134 hk52 _ _ _ _ _ h
  · refine E_aload_n dX9_decades_125 rfl rfl ?_
    refine E_iload dX9_decades_126 rfl ?_
    refine E_iload dX9_decades_128 rfl ?_
    refine F_Vi h (fun a m e => tX9_showIt e) dX9_decades_130 hm_X9_showIt hv_X9_showIt ln_X9_430 rfl rfl (Nat.le_of_ble_eq_true rfl) (Nat.le_of_ble_eq_true rfl) (kc' := 0) (ks' := 0) rfl rfl (fun v27 u28 h => ?_)
    refine E_pop dX9_decades_133 rfl ?_
    refine Eg.pick [0, 1, 2, 3] rfl ?_
    exact pX9_decades_134 hk52 _ _ _ _ _ h
def bX9_decades_52 (k52 : Mm → Nat → Int32 → Int32 → Int32 → Option (Int32 × Mm)) (u : Mm) (a0 : Nat) (x2 : Int32) (x3 : Int32) (x4 : Int32) : Option (Int32 × Mm) := (if (x2 : Int32) ≤ x4 then bX9_decades_144 u a0 x3 else oK u a0 9 54 (oNn (mR u a0 3) (fun e18 => oA u e18 10 4 (oI (mI u e18 (Int32.toNatClampNeg 4)) (fun v19 => (if (999 : Int32) ≤ v19 then bX9_decades_144 u a0 x3 else oR u a0 9 (oB (fX9_draw u a0 2) (fun v20 u21 => oR u21 a0 9 (oB (fX9_draw u21 a0 8) (fun v22 u23 => oR u23 a0 9 (oB (fX9_draw u23 a0 3) (fun v24 u25 => (if (v24 : Int32) = 0 then oR u25 a0 9 (oB (fX9_canAttack u25 a0 v20 v22) (fun v29 u30 => (if (v29 : Int32) = 0 then bX9_decades_119 k52 u30 a0 x2 x3 x4 v20 v22 v24 else oR u30 a0 9 (oB (fX9_attackIt u30 a0 v20 v22) (fun v31 u32 => oI (x3 + v31) (fun v33 => bX9_decades_119 k52 u32 a0 x2 v33 x4 v20 v22 v24)))))) else bX9_decades_119 k52 u25 a0 x2 x3 x4 v20 v22 v24)))))))))))))
set_option maxRecDepth 100000 in
set_option maxHeartbeats 4000000 in
theorem pX9_decades_52 {r : Int32} {u' : Mm} {k52 : Mm → Nat → Int32 → Int32 → Int32 → Option (Int32 × Mm)} (hk52 : ∀ (u : Mm) (a0 : Nat) (x2 : Int32) (x3 : Int32) (x4 : Int32), k52 u a0 x2 x3 x4 = some (r, u') → Eg MX9_decades 6 0 0 (some (.int r), u') 52 [(0, .ref a0), (2, .int x2), (3, .int x3), (4, .int x4)] [] u) (u : Mm) (a0 : Nat) (x2 : Int32) (x3 : Int32) (x4 : Int32) (h : bX9_decades_52 k52 u a0 x2 x3 x4 = some (r, u')) : Eg MX9_decades 6 0 0 (some (.int r), u') 52 [(0, .ref a0), (2, .int x2), (3, .int x3), (4, .int x4)] [] u := by
  unfold bX9_decades_52 at h
  refine E_iload dX9_decades_52 rfl ?_
  refine E_iload_n dX9_decades_54 rfl rfl ?_
  refine E_ic_ge (tgt := 144) h dX9_decades_55 (by decide) (fun h => ?_) (fun h => ?_)
  · refine Eg.pick [0, 2] rfl ?_
    exact pX9_decades_144 _ _ _ h
  · refine E_aload_n dX9_decades_58 rfl rfl ?_
    refine E_getA h dX9_decades_59 cf9 lk_X9_13 (by decide) (fun _ _ _ => rfl) (fun e18 h => ?_)
    refine E_iconst (v := 4) dX9_decades_62 (by decide) ?_
    refine E_iald h dX9_decades_63 (fun h => ?_)
    refine E_oI h (fun v19 h => ?_)
    refine E_sipush (v := 999) dX9_decades_64 (by decide) ?_
    refine E_ic_ge (tgt := 144) h dX9_decades_67 (by decide) (fun h => ?_) (fun h => ?_)
    · refine Eg.pick [0, 2] rfl ?_
      exact pX9_decades_144 _ _ _ h
    · refine E_aload_n dX9_decades_70 rfl rfl ?_
      refine E_iconst (v := 2) dX9_decades_71 (by decide) ?_
      refine F_Vi h (fun a m e => tX9_draw e) dX9_decades_72 hm_X9_draw hv_X9_draw ln_X9_539 rfl rfl (Nat.le_of_ble_eq_true rfl) (Nat.le_of_ble_eq_true rfl) (kc' := 0) (ks' := 0) rfl rfl (fun v20 u21 h => ?_)
      refine E_istore (l' := [(5, .int v20), (0, .ref a0), (2, .int x2), (3, .int x3), (4, .int x4)]) dX9_decades_75 (Nat.le_of_ble_eq_true rfl) rfl ?_
      refine E_aload_n dX9_decades_77 rfl rfl ?_
      refine E_bipush (v := 8) dX9_decades_78 (by decide) ?_
      refine F_Vi h (fun a m e => tX9_draw e) dX9_decades_80 hm_X9_draw hv_X9_draw ln_X9_539 rfl rfl (Nat.le_of_ble_eq_true rfl) (Nat.le_of_ble_eq_true rfl) (kc' := 0) (ks' := 0) rfl rfl (fun v22 u23 h => ?_)
      refine E_istore (l' := [(6, .int v22), (5, .int v20), (0, .ref a0), (2, .int x2), (3, .int x3), (4, .int x4)]) dX9_decades_83 (Nat.le_of_ble_eq_true rfl) rfl ?_
      refine E_aload_n dX9_decades_85 rfl rfl ?_
      refine E_iconst (v := 3) dX9_decades_86 (by decide) ?_
      refine F_Vi h (fun a m e => tX9_draw e) dX9_decades_87 hm_X9_draw hv_X9_draw ln_X9_539 rfl rfl (Nat.le_of_ble_eq_true rfl) (Nat.le_of_ble_eq_true rfl) (kc' := 0) (ks' := 0) rfl rfl (fun v24 u25 h => ?_)
      refine E_istore (l' := [(7, .int v24), (6, .int v22), (5, .int v20), (0, .ref a0), (2, .int x2), (3, .int x3), (4, .int x4)]) dX9_decades_90 (Nat.le_of_ble_eq_true rfl) rfl ?_
      refine E_iload dX9_decades_92 rfl ?_
      refine E_if_ne (tgt := 119) h dX9_decades_94 (by decide) (fun h => ?_) (fun h => ?_)
      · refine Eg.pick [3, 4, 5, 6, 2, 1, 0] rfl ?_
        exact pX9_decades_119 hk52 _ _ _ _ _ _ _ _ h
      · refine E_aload_n dX9_decades_97 rfl rfl ?_
        refine E_iload dX9_decades_98 rfl ?_
        refine E_iload dX9_decades_100 rfl ?_
        refine F_Vi h (fun a m e => tX9_canAttack e) dX9_decades_102 hm_X9_canAttack hv_X9_canAttack ln_X9_409 rfl rfl (Nat.le_of_ble_eq_true rfl) (Nat.le_of_ble_eq_true rfl) (kc' := 0) (ks' := 0) rfl rfl (fun v29 u30 h => ?_)
        refine E_if_eq (tgt := 119) h dX9_decades_105 (by decide) (fun h => ?_) (fun h => ?_)
        · refine Eg.pick [3, 4, 5, 6, 2, 1, 0] rfl ?_
          exact pX9_decades_119 hk52 _ _ _ _ _ _ _ _ h
        · refine E_iload_n dX9_decades_108 rfl rfl ?_
          refine E_aload_n dX9_decades_109 rfl rfl ?_
          refine E_iload dX9_decades_110 rfl ?_
          refine E_iload dX9_decades_112 rfl ?_
          refine F_Vi h (fun a m e => tX9_attackIt e) dX9_decades_114 hm_X9_attackIt hv_X9_attackIt ln_X9_415 rfl rfl (Nat.le_of_ble_eq_true rfl) (Nat.le_of_ble_eq_true rfl) (kc' := 0) (ks' := 0) rfl rfl (fun v31 u32 h => ?_)
          refine E_iadd dX9_decades_117 ?_
          refine E_oI h (fun v33 h => ?_)
          refine E_istore_n (l' := [(3, .int v33), (7, .int v24), (6, .int v22), (5, .int v20), (0, .ref a0), (2, .int x2), (4, .int x4)]) dX9_decades_118 rfl (Nat.le_of_ble_eq_true rfl) rfl ?_
          refine Eg.pick [4, 5, 0, 6, 3, 2, 1] rfl ?_
          exact pX9_decades_119 hk52 _ _ _ _ _ _ _ _ h
def rX9_decades_52 : Nat → Mm → Nat → Int32 → Int32 → Int32 → Option (Int32 × Mm)
  | 0, _, _, _, _, _ => none
  | n + 1, u, a0, x2, x3, x4 => bX9_decades_52 (rX9_decades_52 n) u a0 x2 x3 x4
theorem prX9_decades_52 {r : Int32} {u' : Mm} : ∀ (n : Nat) (u : Mm) (a0 : Nat) (x2 : Int32) (x3 : Int32) (x4 : Int32), rX9_decades_52 n u a0 x2 x3 x4 = some (r, u') → Eg MX9_decades 6 0 0 (some (.int r), u') 52 [(0, .ref a0), (2, .int x2), (3, .int x3), (4, .int x4)] [] u
  | 0, _, _, _, _, _, h => by cases h
  | n + 1, u, a0, x2, x3, x4, h => pX9_decades_52 (prX9_decades_52 n) u a0 x2 x3 x4 h
def fX9_decades (u : Mm) (a0 : Nat) (x1 : Int32) (x2 : Int32) : Option (Int32 × Mm) := oK u a0 9 54 (oU (wI u a0 (upd (mI u a0) 0 0)) (fun u1 => oB (fX9_in u1 (Int32.toInt64 x1) 0 1000000) (fun v2 u3 => (if (v2 : Int32) = 0 then bX9_decades_29 u3 a0 else oB (fX9_in u3 (Int32.toInt64 x2) 1 60) (fun v6 u7 => (if (v6 : Int32) = 0 then bX9_decades_29 u7 a0 else oR u7 a0 9 (oB (fX9_keepAll u7 a0 16) (fun _ u8 => oK u8 a0 9 54 (oU (wL u8 a0 (vp_updL (mL u8 a0) 51 (Int32.toInt64 x1))) (fun u9 => rX9_decades_52 hwF u9 a0 x2 0 0))))))))))
set_option maxRecDepth 100000 in
set_option maxHeartbeats 4000000 in
theorem tX9_decades {u : Mm} {a0 : Nat} {x1 : Int32} {x2 : Int32} {r : Int32} {u' : Mm} (h : fX9_decades u a0 x1 x2 = some (r, u')) : Ev 6 MX9_decades 0 0 [.ref a0, .int x1, .int x2] u (some (.int r), u') := by
  refine Ev.of (by decide +kernel) (Nat.le_of_ble_eq_true rfl) (show Eg MX9_decades 6 0 0 (some (.int r), u') 0 [(0, .ref a0), (1, .int x1), (2, .int x2)] [] u from ?_)
  unfold fX9_decades at h
  refine E_aload_n dX9_decades_0 rfl rfl ?_
  refine E_iconst (v := 0) dX9_decades_1 (by decide) ?_
  refine E_putI h dX9_decades_2 cf9 lk_X9_134 (by decide) (Or.inl rfl) rfl (fun h => ?_)
  refine E_oU h (fun u1 h => ?_)
  refine E_iload_n dX9_decades_5 rfl rfl ?_
  refine E_i2l dX9_decades_6 ?_
  refine E_lconst (v := 0) dX9_decades_7 (by decide) ?_
  refine E_ldc2 dX9_decades_8 rfl cn_X9_250 ?_
  refine F_Si h (fun a m e => tX9_in e) dX9_decades_11 hm_X9_in hs_X9_in ln_X9_154 rfl rfl (Nat.le_of_ble_eq_true rfl) (Nat.le_of_ble_eq_true rfl) (kc' := 0) (ks' := 0) rfl rfl (fun v2 u3 h => ?_)
  refine E_if_eq (tgt := 29) h dX9_decades_14 (by decide) (fun h => ?_) (fun h => ?_)
  · refine Eg.pick [0] rfl ?_
    exact pX9_decades_29 _ _ h
  · refine E_iload_n dX9_decades_17 rfl rfl ?_
    refine E_i2l dX9_decades_18 ?_
    refine E_lconst (v := 1) dX9_decades_19 (by decide) ?_
    refine E_ldc2 dX9_decades_20 rfl cn_X9_485 ?_
    refine F_Si h (fun a m e => tX9_in e) dX9_decades_23 hm_X9_in hs_X9_in ln_X9_154 rfl rfl (Nat.le_of_ble_eq_true rfl) (Nat.le_of_ble_eq_true rfl) (kc' := 0) (ks' := 0) rfl rfl (fun v6 u7 h => ?_)
    refine E_if_ne (tgt := 35) h dX9_decades_26 (by decide) (fun h => ?_) (fun h => ?_)
    · refine E_aload_n dX9_decades_35 rfl rfl ?_
      refine E_bipush (v := 16) dX9_decades_36 (by decide) ?_
      refine F_Vv h (fun m e => tX9_keepAll e) dX9_decades_38 hm_X9_keepAll hv_X9_keepAll ln_X9_147 rfl rfl (Nat.le_of_ble_eq_true rfl) (Nat.le_of_ble_eq_true rfl) (kc' := 0) (ks' := 0) rfl rfl (fun u8 h => ?_)
      refine E_aload_n dX9_decades_41 rfl rfl ?_
      refine E_iload_n dX9_decades_42 rfl rfl ?_
      refine E_i2l dX9_decades_43 ?_
      refine E_putL h dX9_decades_44 cf9 lk_X9_530 (by decide) (Or.inl rfl) rfl (fun h => ?_)
      refine E_oU h (fun u9 h => ?_)
      refine E_iconst (v := 0) dX9_decades_47 (by decide) ?_
      refine E_istore_n (l' := [(3, .int 0), (0, .ref a0), (1, .int x1), (2, .int x2)]) dX9_decades_48 rfl (Nat.le_of_ble_eq_true rfl) rfl ?_
      refine E_iconst (v := 0) dX9_decades_49 (by decide) ?_
      refine E_istore (l' := [(4, .int 0), (3, .int 0), (0, .ref a0), (1, .int x1), (2, .int x2)]) dX9_decades_50 (Nat.le_of_ble_eq_true rfl) rfl ?_
      refine Eg.pick [2, 4, 1, 0] rfl ?_
      exact prX9_decades_52 _ _ _ _ _ _ h
    · refine Eg.pick [0] rfl ?_
      exact pX9_decades_29 _ _ h
def bX9_drawn_90 (u : Mm) (a0 : Nat) (x1 : Int32) (s0 : Int32) : Option (Int32 × Mm) := oK u a0 9 54 (oNn (mR u a0 52) (fun e7 => oA u e7 10 ((s0 - 4) + x1) (oI (mI u e7 (Int32.toNatClampNeg ((s0 - 4) + x1))) (fun v8 => some (v8, u)))))
set_option maxRecDepth 100000 in
set_option maxHeartbeats 4000000 in
theorem pX9_drawn_90 {r : Int32} {u' : Mm} (u : Mm) (a0 : Nat) (x1 : Int32) (s0 : Int32) (h : bX9_drawn_90 u a0 x1 s0 = some (r, u')) : Eg MX9_drawn 1 0 0 (some (.int r), u') 90 [(0, .ref a0), (1, .int x1)] [.int s0] u := by
  unfold bX9_drawn_90 at h
  refine E_istore_n (l' := [(3, .int s0), (0, .ref a0), (1, .int x1)]) dX9_drawn_90 rfl (Nat.le_of_ble_eq_true rfl) rfl ?_
  refine E_aload_n dX9_drawn_91 rfl rfl ?_
  refine E_getA h dX9_drawn_92 cf9 lk_X9_131 (by decide) (fun _ _ _ => rfl) (fun e7 h => ?_)
  refine E_iload_n dX9_drawn_95 rfl rfl ?_
  refine E_iconst (v := 4) dX9_drawn_96 (by decide) ?_
  refine E_isub dX9_drawn_97 ?_
  refine E_iload_n dX9_drawn_98 rfl rfl ?_
  refine E_iadd dX9_drawn_99 ?_
  refine E_iald h dX9_drawn_100 (fun h => ?_)
  refine E_oI h (fun v8 h => ?_)
  exact E_iret h dX9_drawn_101 rfl
def bX9_drawn_39 (u : Mm) (a0 : Nat) (x1 : Int32) (x2 : Int32) (s0 : Int64) (s1 : Int64) (s2 : Int64) : Option (Int32 × Mm) := oB (fX9_in u s2 s1 s0) (fun v5 u6 => (if (v5 : Int32) = 0 then some ((-1000), u6) else (if (x2 : Int32) = 0 then bX9_drawn_90 u6 a0 x1 7 else (if (x2 : Int32) = 1 then bX9_drawn_90 u6 a0 x1 15 else (if (x2 : Int32) = 2 then bX9_drawn_90 u6 a0 x1 23 else (if (x2 : Int32) = 3 then bX9_drawn_90 u6 a0 x1 31 else bX9_drawn_90 u6 a0 x1 33))))))
set_option maxRecDepth 100000 in
set_option maxHeartbeats 4000000 in
theorem pX9_drawn_39 {r : Int32} {u' : Mm} (u : Mm) (a0 : Nat) (x1 : Int32) (x2 : Int32) (s0 : Int64) (s1 : Int64) (s2 : Int64) (h : bX9_drawn_39 u a0 x1 x2 s0 s1 s2 = some (r, u')) : Eg MX9_drawn 1 0 0 (some (.int r), u') 39 [(0, .ref a0), (1, .int x1), (2, .int x2)] [.long s0, .long s1, .long s2] u := by
  unfold bX9_drawn_39 at h
  refine F_Si h (fun a m e => tX9_in e) dX9_drawn_39 hm_X9_in hs_X9_in ln_X9_154 rfl rfl (Nat.le_of_ble_eq_true rfl) (Nat.le_of_ble_eq_true rfl) (kc' := 0) (ks' := 0) rfl rfl (fun v5 u6 h => ?_)
  refine E_if_ne (tgt := 49) h dX9_drawn_42 (by decide) (fun h => ?_) (fun h => ?_)
  · refine E_iload_n dX9_drawn_49 rfl rfl ?_
    refine E_if_ne (tgt := 58) h dX9_drawn_50 (by decide) (fun h => ?_) (fun h => ?_)
    · refine E_iload_n dX9_drawn_58 rfl rfl ?_
      refine E_iconst (v := 1) dX9_drawn_59 (by decide) ?_
      refine E_ic_ne (tgt := 68) h dX9_drawn_60 (by decide) (fun h => ?_) (fun h => ?_)
      · refine E_iload_n dX9_drawn_68 rfl rfl ?_
        refine E_iconst (v := 2) dX9_drawn_69 (by decide) ?_
        refine E_ic_ne (tgt := 78) h dX9_drawn_70 (by decide) (fun h => ?_) (fun h => ?_)
        · refine E_iload_n dX9_drawn_78 rfl rfl ?_
          refine E_iconst (v := 3) dX9_drawn_79 (by decide) ?_
          refine E_ic_ne (tgt := 88) h dX9_drawn_80 (by decide) (fun h => ?_) (fun h => ?_)
          · refine E_bipush (v := 33) dX9_drawn_88 (by decide) ?_
            refine Eg.pick [0, 1] rfl ?_
            exact pX9_drawn_90 _ _ _ _ h
          · refine E_bipush (v := 31) dX9_drawn_83 (by decide) ?_
            refine E_goto (tgt := 90) dX9_drawn_85 (by decide) ?_
            refine Eg.pick [0, 1] rfl ?_
            exact pX9_drawn_90 _ _ _ _ h
        · refine E_bipush (v := 23) dX9_drawn_73 (by decide) ?_
          refine E_goto (tgt := 90) dX9_drawn_75 (by decide) ?_
          refine Eg.pick [0, 1] rfl ?_
          exact pX9_drawn_90 _ _ _ _ h
      · refine E_bipush (v := 15) dX9_drawn_63 (by decide) ?_
        refine E_goto (tgt := 90) dX9_drawn_65 (by decide) ?_
        refine Eg.pick [0, 1] rfl ?_
        exact pX9_drawn_90 _ _ _ _ h
    · refine E_bipush (v := 7) dX9_drawn_53 (by decide) ?_
      refine E_goto (tgt := 90) dX9_drawn_55 (by decide) ?_
      refine Eg.pick [0, 1] rfl ?_
      exact pX9_drawn_90 _ _ _ _ h
  · refine E_sipush (v := (-1000)) dX9_drawn_45 (by decide) ?_
    exact E_iret h dX9_drawn_48 rfl
def fX9_drawn (u : Mm) (a0 : Nat) (x1 : Int32) (x2 : Int32) : Option (Int32 × Mm) := oK u a0 9 54 (oU (wI u a0 (upd (mI u a0) 0 0)) (fun u1 => oK u1 a0 9 54 (oI (mI u1 a0 53) (fun v2 => (if (v2 : Int32) = 0 then some ((-1000), u1) else oB (fX9_in u1 (Int32.toInt64 x2) 0 4) (fun v3 u4 => (if (v3 : Int32) = 0 then some ((-1000), u4) else (if (3 : Int32) ≤ x2 then bX9_drawn_39 u4 a0 x1 x2 1 0 (Int32.toInt64 x1) else bX9_drawn_39 u4 a0 x1 x2 7 0 (Int32.toInt64 x1)))))))))
set_option maxRecDepth 100000 in
set_option maxHeartbeats 4000000 in
theorem tX9_drawn {u : Mm} {a0 : Nat} {x1 : Int32} {x2 : Int32} {r : Int32} {u' : Mm} (h : fX9_drawn u a0 x1 x2 = some (r, u')) : Ev 1 MX9_drawn 0 0 [.ref a0, .int x1, .int x2] u (some (.int r), u') := by
  refine Ev.of (by decide +kernel) (Nat.le_of_ble_eq_true rfl) (show Eg MX9_drawn 1 0 0 (some (.int r), u') 0 [(0, .ref a0), (1, .int x1), (2, .int x2)] [] u from ?_)
  unfold fX9_drawn at h
  refine E_aload_n dX9_drawn_0 rfl rfl ?_
  refine E_iconst (v := 0) dX9_drawn_1 (by decide) ?_
  refine E_putI h dX9_drawn_2 cf9 lk_X9_134 (by decide) (Or.inl rfl) rfl (fun h => ?_)
  refine E_oU h (fun u1 h => ?_)
  refine E_aload_n dX9_drawn_5 rfl rfl ?_
  refine E_getI h dX9_drawn_6 cf9 lk_X9_542 (by decide) (fun _ _ _ => rfl) (fun h => ?_)
  refine E_oI h (fun v2 h => ?_)
  refine E_if_eq (tgt := 45) h dX9_drawn_9 (by decide) (fun h => ?_) (fun h => ?_)
  · refine E_sipush (v := (-1000)) dX9_drawn_45 (by decide) ?_
    exact E_iret h dX9_drawn_48 rfl
  · refine E_iload_n dX9_drawn_12 rfl rfl ?_
    refine E_i2l dX9_drawn_13 ?_
    refine E_lconst (v := 0) dX9_drawn_14 (by decide) ?_
    refine E_ldc2 dX9_drawn_15 rfl cn_X9_545 ?_
    refine F_Si h (fun a m e => tX9_in e) dX9_drawn_18 hm_X9_in hs_X9_in ln_X9_154 rfl rfl (Nat.le_of_ble_eq_true rfl) (Nat.le_of_ble_eq_true rfl) (kc' := 0) (ks' := 0) rfl rfl (fun v3 u4 h => ?_)
    refine E_if_eq (tgt := 45) h dX9_drawn_21 (by decide) (fun h => ?_) (fun h => ?_)
    · refine E_sipush (v := (-1000)) dX9_drawn_45 (by decide) ?_
      exact E_iret h dX9_drawn_48 rfl
    · refine E_iload_n dX9_drawn_24 rfl rfl ?_
      refine E_i2l dX9_drawn_25 ?_
      refine E_lconst (v := 0) dX9_drawn_26 (by decide) ?_
      refine E_iload_n dX9_drawn_27 rfl rfl ?_
      refine E_iconst (v := 3) dX9_drawn_28 (by decide) ?_
      refine E_ic_ge (tgt := 38) h dX9_drawn_29 (by decide) (fun h => ?_) (fun h => ?_)
      · refine E_lconst (v := 1) dX9_drawn_38 (by decide) ?_
        refine Eg.pick [0, 1, 2] rfl ?_
        exact pX9_drawn_39 _ _ _ _ _ _ _ h
      · refine E_ldc2 dX9_drawn_32 rfl cn_X9_161 ?_
        refine E_goto (tgt := 39) dX9_drawn_35 (by decide) ?_
        refine Eg.pick [0, 1, 2] rfl ?_
        exact pX9_drawn_39 _ _ _ _ _ _ _ h
def bX9_count_167 (u : Mm) (s0 : Int32) : Option (Int32 × Mm) := some (s0, u)
set_option maxRecDepth 100000 in
set_option maxHeartbeats 4000000 in
theorem pX9_count_167 {r : Int32} {u' : Mm} (u : Mm) (s0 : Int32) (h : bX9_count_167 u s0 = some (r, u')) : Eg MX9_count 1 0 0 (some (.int r), u') 167 [] [.int s0] u := by
  unfold bX9_count_167 at h
  exact E_iret h dX9_count_167 rfl
def fX9_count (u : Mm) (a0 : Nat) (x1 : Int32) : Option (Int32 × Mm) := oK u a0 9 54 (oU (wI u a0 (upd (mI u a0) 0 0)) (fun u1 => (if (x1 : Int32) = 0 then oK u1 a0 9 54 (oNn (mR u1 a0 3) (fun e2 => oA u1 e2 10 0 (oI (mI u1 e2 (Int32.toNatClampNeg 0)) (fun v3 => some (v3, u1))))) else (if (x1 : Int32) = 1 then oK u1 a0 9 54 (oNn (mR u1 a0 3) (fun e4 => oA u1 e4 10 1 (oI (mI u1 e4 (Int32.toNatClampNeg 1)) (fun v5 => some (v5, u1))))) else (if (x1 : Int32) = 2 then oK u1 a0 9 54 (oNn (mR u1 a0 3) (fun e6 => oA u1 e6 10 2 (oI (mI u1 e6 (Int32.toNatClampNeg 2)) (fun v7 => some (v7, u1))))) else (if (x1 : Int32) = 3 then oK u1 a0 9 54 (oI (mI u1 a0 8) (fun v8 => some (v8, u1))) else (if (x1 : Int32) = 4 then oK u1 a0 9 54 (oI (mI u1 a0 13) (fun v9 => some (v9, u1))) else (if (x1 : Int32) = 5 then oK u1 a0 9 54 (oNn (mR u1 a0 2) (fun e10 => oA u1 e10 10 1 (oI (mI u1 e10 (Int32.toNatClampNeg 1)) (fun v11 => some (v11, u1))))) else (if (x1 : Int32) = 6 then oK u1 a0 9 54 (oNn (mR u1 a0 2) (fun e12 => oA u1 e12 10 2 (oI (mI u1 e12 (Int32.toNatClampNeg 2)) (fun v13 => some (v13, u1))))) else (if (x1 : Int32) = 7 then oK u1 a0 9 54 (oNn (mR u1 a0 2) (fun e14 => oA u1 e14 10 3 (oI (mI u1 e14 (Int32.toNatClampNeg 3)) (fun v15 => some (v15, u1))))) else (if (x1 : Int32) = 8 then oK u1 a0 9 54 (oNn (mR u1 a0 2) (fun e16 => oA u1 e16 10 5 (oI (mI u1 e16 (Int32.toNatClampNeg 5)) (fun v17 => some (v17, u1))))) else (if (x1 : Int32) = 9 then oK u1 a0 9 54 (oNn (mR u1 a0 2) (fun e18 => oA u1 e18 10 6 (oI (mI u1 e18 (Int32.toNatClampNeg 6)) (fun v19 => some (v19, u1))))) else (if (x1 : Int32) = 10 then oK u1 a0 9 54 (oNn (mR u1 a0 3) (fun e20 => oA u1 e20 10 3 (oI (mI u1 e20 (Int32.toNatClampNeg 3)) (fun v21 => some (v21, u1))))) else oB (fX9_in u1 (Int32.toInt64 x1) 11 13) (fun v22 u23 => (if (v22 : Int32) = 0 then bX9_count_167 u23 ((-1)) else oK u23 a0 9 54 (oNn (mR u23 a0 3) (fun e24 => oA u23 e24 10 (((4 : Int32) + x1) - 11) (oI (mI u23 e24 (Int32.toNatClampNeg (((4 : Int32) + x1) - 11))) (fun v25 => bX9_count_167 u23 v25)))))))))))))))))))
set_option maxRecDepth 100000 in
set_option maxHeartbeats 4000000 in
theorem tX9_count {u : Mm} {a0 : Nat} {x1 : Int32} {r : Int32} {u' : Mm} (h : fX9_count u a0 x1 = some (r, u')) : Ev 1 MX9_count 0 0 [.ref a0, .int x1] u (some (.int r), u') := by
  refine Ev.of (by decide +kernel) (Nat.le_of_ble_eq_true rfl) (show Eg MX9_count 1 0 0 (some (.int r), u') 0 [(0, .ref a0), (1, .int x1)] [] u from ?_)
  unfold fX9_count at h
  refine E_aload_n dX9_count_0 rfl rfl ?_
  refine E_iconst (v := 0) dX9_count_1 (by decide) ?_
  refine E_putI h dX9_count_2 cf9 lk_X9_134 (by decide) (Or.inl rfl) rfl (fun h => ?_)
  refine E_oU h (fun u1 h => ?_)
  refine E_iload_n dX9_count_5 rfl rfl ?_
  refine ite_cases h (fun c6_0 h => ?_) (fun c6_0 h => ?_)
  · refine E_tabIn (off := 58) (tgt := 64) dX9_count_6 c6_0 (by decide +kernel) (by decide +kernel) (by decide +kernel) (by decide) ?_
    refine E_aload_n dX9_count_64 rfl rfl ?_
    refine E_getA h dX9_count_65 cf9 lk_X9_13 (by decide) (fun _ _ _ => rfl) (fun e2 h => ?_)
    refine E_iconst (v := 0) dX9_count_68 (by decide) ?_
    refine E_iald h dX9_count_69 (fun h => ?_)
    refine E_oI h (fun v3 h => ?_)
    exact E_iret h dX9_count_70 rfl
  · refine ite_cases h (fun c6_1 h => ?_) (fun c6_1 h => ?_)
    · refine E_tabIn (off := 65) (tgt := 71) dX9_count_6 c6_1 (by decide +kernel) (by decide +kernel) (by decide +kernel) (by decide) ?_
      refine E_aload_n dX9_count_71 rfl rfl ?_
      refine E_getA h dX9_count_72 cf9 lk_X9_13 (by decide) (fun _ _ _ => rfl) (fun e4 h => ?_)
      refine E_iconst (v := 1) dX9_count_75 (by decide) ?_
      refine E_iald h dX9_count_76 (fun h => ?_)
      refine E_oI h (fun v5 h => ?_)
      exact E_iret h dX9_count_77 rfl
    · refine ite_cases h (fun c6_2 h => ?_) (fun c6_2 h => ?_)
      · refine E_tabIn (off := 72) (tgt := 78) dX9_count_6 c6_2 (by decide +kernel) (by decide +kernel) (by decide +kernel) (by decide) ?_
        refine E_aload_n dX9_count_78 rfl rfl ?_
        refine E_getA h dX9_count_79 cf9 lk_X9_13 (by decide) (fun _ _ _ => rfl) (fun e6 h => ?_)
        refine E_iconst (v := 2) dX9_count_82 (by decide) ?_
        refine E_iald h dX9_count_83 (fun h => ?_)
        refine E_oI h (fun v7 h => ?_)
        exact E_iret h dX9_count_84 rfl
      · refine ite_cases h (fun c6_3 h => ?_) (fun c6_3 h => ?_)
        · refine E_tabIn (off := 79) (tgt := 85) dX9_count_6 c6_3 (by decide +kernel) (by decide +kernel) (by decide +kernel) (by decide) ?_
          refine E_aload_n dX9_count_85 rfl rfl ?_
          refine E_getI h dX9_count_86 cf9 lk_X9_140 (by decide) (fun _ _ _ => rfl) (fun h => ?_)
          refine E_oI h (fun v8 h => ?_)
          exact E_iret h dX9_count_89 rfl
        · refine ite_cases h (fun c6_4 h => ?_) (fun c6_4 h => ?_)
          · refine E_tabIn (off := 84) (tgt := 90) dX9_count_6 c6_4 (by decide +kernel) (by decide +kernel) (by decide +kernel) (by decide) ?_
            refine E_aload_n dX9_count_90 rfl rfl ?_
            refine E_getI h dX9_count_91 cf9 lk_X9_211 (by decide) (fun _ _ _ => rfl) (fun h => ?_)
            refine E_oI h (fun v9 h => ?_)
            exact E_iret h dX9_count_94 rfl
          · refine ite_cases h (fun c6_5 h => ?_) (fun c6_5 h => ?_)
            · refine E_tabIn (off := 89) (tgt := 95) dX9_count_6 c6_5 (by decide +kernel) (by decide +kernel) (by decide +kernel) (by decide) ?_
              refine E_aload_n dX9_count_95 rfl rfl ?_
              refine E_getA h dX9_count_96 cf9 lk_X9_7 (by decide) (fun _ _ _ => rfl) (fun e10 h => ?_)
              refine E_iconst (v := 1) dX9_count_99 (by decide) ?_
              refine E_iald h dX9_count_100 (fun h => ?_)
              refine E_oI h (fun v11 h => ?_)
              exact E_iret h dX9_count_101 rfl
            · refine ite_cases h (fun c6_6 h => ?_) (fun c6_6 h => ?_)
              · refine E_tabIn (off := 96) (tgt := 102) dX9_count_6 c6_6 (by decide +kernel) (by decide +kernel) (by decide +kernel) (by decide) ?_
                refine E_aload_n dX9_count_102 rfl rfl ?_
                refine E_getA h dX9_count_103 cf9 lk_X9_7 (by decide) (fun _ _ _ => rfl) (fun e12 h => ?_)
                refine E_iconst (v := 2) dX9_count_106 (by decide) ?_
                refine E_iald h dX9_count_107 (fun h => ?_)
                refine E_oI h (fun v13 h => ?_)
                exact E_iret h dX9_count_108 rfl
              · refine ite_cases h (fun c6_7 h => ?_) (fun c6_7 h => ?_)
                · refine E_tabIn (off := 103) (tgt := 109) dX9_count_6 c6_7 (by decide +kernel) (by decide +kernel) (by decide +kernel) (by decide) ?_
                  refine E_aload_n dX9_count_109 rfl rfl ?_
                  refine E_getA h dX9_count_110 cf9 lk_X9_7 (by decide) (fun _ _ _ => rfl) (fun e14 h => ?_)
                  refine E_iconst (v := 3) dX9_count_113 (by decide) ?_
                  refine E_iald h dX9_count_114 (fun h => ?_)
                  refine E_oI h (fun v15 h => ?_)
                  exact E_iret h dX9_count_115 rfl
                · refine ite_cases h (fun c6_8 h => ?_) (fun c6_8 h => ?_)
                  · refine E_tabIn (off := 110) (tgt := 116) dX9_count_6 c6_8 (by decide +kernel) (by decide +kernel) (by decide +kernel) (by decide) ?_
                    refine E_aload_n dX9_count_116 rfl rfl ?_
                    refine E_getA h dX9_count_117 cf9 lk_X9_7 (by decide) (fun _ _ _ => rfl) (fun e16 h => ?_)
                    refine E_iconst (v := 5) dX9_count_120 (by decide) ?_
                    refine E_iald h dX9_count_121 (fun h => ?_)
                    refine E_oI h (fun v17 h => ?_)
                    exact E_iret h dX9_count_122 rfl
                  · refine ite_cases h (fun c6_9 h => ?_) (fun c6_9 h => ?_)
                    · refine E_tabIn (off := 117) (tgt := 123) dX9_count_6 c6_9 (by decide +kernel) (by decide +kernel) (by decide +kernel) (by decide) ?_
                      refine E_aload_n dX9_count_123 rfl rfl ?_
                      refine E_getA h dX9_count_124 cf9 lk_X9_7 (by decide) (fun _ _ _ => rfl) (fun e18 h => ?_)
                      refine E_bipush (v := 6) dX9_count_127 (by decide) ?_
                      refine E_iald h dX9_count_129 (fun h => ?_)
                      refine E_oI h (fun v19 h => ?_)
                      exact E_iret h dX9_count_130 rfl
                    · refine ite_cases h (fun c6_10 h => ?_) (fun c6_10 h => ?_)
                      · refine E_tabIn (off := 125) (tgt := 131) dX9_count_6 c6_10 (by decide +kernel) (by decide +kernel) (by decide +kernel) (by decide) ?_
                        refine E_aload_n dX9_count_131 rfl rfl ?_
                        refine E_getA h dX9_count_132 cf9 lk_X9_13 (by decide) (fun _ _ _ => rfl) (fun e20 h => ?_)
                        refine E_iconst (v := 3) dX9_count_135 (by decide) ?_
                        refine E_iald h dX9_count_136 (fun h => ?_)
                        refine E_oI h (fun v21 h => ?_)
                        exact E_iret h dX9_count_137 rfl
                      · refine E_tabD (tgt := 138) [0, 1, 2, 3, 4, 5, 6, 7, 8, 9, 10] dX9_count_6 (by intro k hk; simp only [List.mem_cons, List.not_mem_nil, or_false] at hk; rcases hk with rfl | rfl | rfl | rfl | rfl | rfl | rfl | rfl | rfl | rfl | rfl <;> first | exact ne_lit (by decide +kernel) c6_0 | exact ne_lit (by decide +kernel) c6_1 | exact ne_lit (by decide +kernel) c6_2 | exact ne_lit (by decide +kernel) c6_3 | exact ne_lit (by decide +kernel) c6_4 | exact ne_lit (by decide +kernel) c6_5 | exact ne_lit (by decide +kernel) c6_6 | exact ne_lit (by decide +kernel) c6_7 | exact ne_lit (by decide +kernel) c6_8 | exact ne_lit (by decide +kernel) c6_9 | exact ne_lit (by decide +kernel) c6_10) (by decide +kernel) (by decide) ?_
                        refine E_iload_n dX9_count_138 rfl rfl ?_
                        refine E_i2l dX9_count_139 ?_
                        refine E_ldc2 dX9_count_140 rfl cn_X9_547 ?_
                        refine E_ldc2 dX9_count_143 rfl cn_X9_549 ?_
                        refine F_Si h (fun a m e => tX9_in e) dX9_count_146 hm_X9_in hs_X9_in ln_X9_154 rfl rfl (Nat.le_of_ble_eq_true rfl) (Nat.le_of_ble_eq_true rfl) (kc' := 0) (ks' := 0) rfl rfl (fun v22 u23 h => ?_)
                        refine E_if_eq (tgt := 166) h dX9_count_149 (by decide) (fun h => ?_) (fun h => ?_)
                        · refine E_iconst (v := (-1)) dX9_count_166 (by decide) ?_
                          refine Eg.pick [] rfl ?_
                          exact pX9_count_167 _ _ h
                        · refine E_aload_n dX9_count_152 rfl rfl ?_
                          refine E_getA h dX9_count_153 cf9 lk_X9_13 (by decide) (fun _ _ _ => rfl) (fun e24 h => ?_)
                          refine E_iconst (v := 4) dX9_count_156 (by decide) ?_
                          refine E_iload_n dX9_count_157 rfl rfl ?_
                          refine E_iadd dX9_count_158 ?_
                          refine E_bipush (v := 11) dX9_count_159 (by decide) ?_
                          refine E_isub dX9_count_161 ?_
                          refine E_iald h dX9_count_162 (fun h => ?_)
                          refine E_oI h (fun v25 h => ?_)
                          refine E_goto (tgt := 167) dX9_count_163 (by decide) ?_
                          refine Eg.pick [] rfl ?_
                          exact pX9_count_167 _ _ h
def fX9_status (u : Mm) (a0 : Nat) : Option (Int32 × Mm) := oK u a0 9 54 (oU (wI u a0 (upd (mI u a0) 0 0)) (fun u1 => oK u1 a0 9 54 (oI (mI u1 a0 1) (fun v2 => some (v2, u1)))))
set_option maxRecDepth 100000 in
set_option maxHeartbeats 4000000 in
theorem tX9_status {u : Mm} {a0 : Nat} {r : Int32} {u' : Mm} (h : fX9_status u a0 = some (r, u')) : Ev 0 MX9_status 0 0 [.ref a0] u (some (.int r), u') := by
  refine Ev.of (by decide +kernel) (Nat.le_of_ble_eq_true rfl) (show Eg MX9_status 0 0 0 (some (.int r), u') 0 [(0, .ref a0)] [] u from ?_)
  unfold fX9_status at h
  refine E_aload_n dX9_status_0 rfl rfl ?_
  refine E_iconst (v := 0) dX9_status_1 (by decide) ?_
  refine E_putI h dX9_status_2 cf9 lk_X9_134 (by decide) (Or.inl rfl) rfl (fun h => ?_)
  refine E_oU h (fun u1 h => ?_)
  refine E_aload_n dX9_status_5 rfl rfl ?_
  refine E_getI h dX9_status_6 cf9 lk_X9_137 (by decide) (fun _ _ _ => rfl) (fun h => ?_)
  refine E_oI h (fun v2 h => ?_)
  exact E_iret h dX9_status_9 rfl
