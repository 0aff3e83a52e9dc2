/-! ===== methods as functions, with their contracts (printed by program) ===== -/
def fX7_doPass (u : Mm) (a0 : Nat) (a1 : Nat) : Option (Int32 × Mm) := oR u a1 1 (oB (fX1_theDay u a1) (fun v1 u2 => (if (v1 : Int32) < 999 then oR u2 a0 7 (oB (fX7_feedOf u2 a0 a1 0) (fun v3 u4 => oR u4 a0 7 (oB (fX7_feedOf u4 a0 a1 1) (fun v5 u6 => oR u6 a1 1 (oB (fX1_supplyOf u6 a1 0) (fun v7 u8 => oR u8 a1 1 (oB (fX1_setSupply u8 a1 0 (v7 + v3)) (fun _ u9 => oR u9 a1 1 (oB (fX1_supplyOf u9 a1 1) (fun v10 u11 => oR u11 a1 1 (oB (fX1_setSupply u11 a1 1 (v10 + v5)) (fun _ u12 => oR u12 a1 1 (oB (fX1_theDay u12 a1) (fun v13 u14 => oR u14 a1 1 (oB (fX1_setDay u14 a1 (v13 + 1)) (fun _ u15 => oR u15 a1 1 (oB (fX1_theDay u15 a1) (fun v16 u17 => some (v16, u17))))))))))))))))))) else some ((-3), u2))))
set_option maxRecDepth 100000 in
set_option maxHeartbeats 4000000 in
theorem tX7_doPass {u : Mm} {a0 : Nat} {a1 : Nat} {r : Int32} {u' : Mm} (h : fX7_doPass u a0 a1 = some (r, u')) : Ev 4 MX7_doPass 0 0 [.ref a0, .ref a1] u (some (.int r), u') := by
  refine Ev.of (by decide +kernel) (Nat.le_of_ble_eq_true rfl) (show Eg MX7_doPass 4 0 0 (some (.int r), u') 0 [(0, .ref a0), (1, .ref a1)] [] u from ?_)
  unfold fX7_doPass at h
  refine E_aload_n dX7_doPass_0 rfl rfl ?_
  refine F_Vi h (fun a m e => tX1_theDay e) dX7_doPass_1 hm_X1_theDay hv_X1_theDay ln_X7_133 rfl rfl (Nat.le_of_ble_eq_true rfl) (Nat.le_of_ble_eq_true rfl) (kc' := 0) (ks' := 0) rfl rfl (fun v1 u2 h => ?_)
  refine E_sipush (v := 999) dX7_doPass_4 (by decide) ?_
  refine E_ic_lt (tgt := 13) h dX7_doPass_7 (by decide) (fun h => ?_) (fun h => ?_)
  · refine E_aload_n dX7_doPass_13 rfl rfl ?_
    refine E_aload_n dX7_doPass_14 rfl rfl ?_
    refine E_iconst (v := 0) dX7_doPass_15 (by decide) ?_
    refine F_Vi h (fun a m e => tX7_feedOf e) dX7_doPass_16 hm_X7_feedOf hv_X7_feedOf ln_X7_137 rfl rfl (Nat.le_of_ble_eq_true rfl) (Nat.le_of_ble_eq_true rfl) (kc' := 0) (ks' := 0) rfl rfl (fun v3 u4 h => ?_)
    refine E_istore_n (l' := [(2, .int v3), (0, .ref a0), (1, .ref a1)]) dX7_doPass_19 rfl (Nat.le_of_ble_eq_true rfl) rfl ?_
    refine E_aload_n dX7_doPass_20 rfl rfl ?_
    refine E_aload_n dX7_doPass_21 rfl rfl ?_
    refine E_iconst (v := 1) dX7_doPass_22 (by decide) ?_
    refine F_Vi h (fun a m e => tX7_feedOf e) dX7_doPass_23 hm_X7_feedOf hv_X7_feedOf ln_X7_137 rfl rfl (Nat.le_of_ble_eq_true rfl) (Nat.le_of_ble_eq_true rfl) (kc' := 0) (ks' := 0) rfl rfl (fun v5 u6 h => ?_)
    refine E_istore_n (l' := [(3, .int v5), (2, .int v3), (0, .ref a0), (1, .ref a1)]) dX7_doPass_26 rfl (Nat.le_of_ble_eq_true rfl) rfl ?_
    refine E_aload_n dX7_doPass_27 rfl rfl ?_
    refine E_iconst (v := 0) dX7_doPass_28 (by decide) ?_
    refine E_aload_n dX7_doPass_29 rfl rfl ?_
    refine E_iconst (v := 0) dX7_doPass_30 (by decide) ?_
    refine F_Vi h (fun a m e => tX1_supplyOf e) dX7_doPass_31 hm_X1_supplyOf hv_X1_supplyOf ln_X7_86 rfl rfl (Nat.le_of_ble_eq_true rfl) (Nat.le_of_ble_eq_true rfl) (kc' := 0) (ks' := 0) rfl rfl (fun v7 u8 h => ?_)
    refine E_iload_n dX7_doPass_34 rfl rfl ?_
    refine E_iadd dX7_doPass_35 ?_
    refine F_Vv h (fun m e => tX1_setSupply e) dX7_doPass_36 hm_X1_setSupply hv_X1_setSupply ln_X7_89 rfl rfl (Nat.le_of_ble_eq_true rfl) (Nat.le_of_ble_eq_true rfl) (kc' := 0) (ks' := 0) rfl rfl (fun u9 h => ?_)
    refine E_aload_n dX7_doPass_39 rfl rfl ?_
    refine E_iconst (v := 1) dX7_doPass_40 (by decide) ?_
    refine E_aload_n dX7_doPass_41 rfl rfl ?_
    refine E_iconst (v := 1) dX7_doPass_42 (by decide) ?_
    refine F_Vi h (fun a m e => tX1_supplyOf e) dX7_doPass_43 hm_X1_supplyOf hv_X1_supplyOf ln_X7_86 rfl rfl (Nat.le_of_ble_eq_true rfl) (Nat.le_of_ble_eq_true rfl) (kc' := 0) (ks' := 0) rfl rfl (fun v10 u11 h => ?_)
    refine E_iload_n dX7_doPass_46 rfl rfl ?_
    refine E_iadd dX7_doPass_47 ?_
    refine F_Vv h (fun m e => tX1_setSupply e) dX7_doPass_48 hm_X1_setSupply hv_X1_setSupply ln_X7_89 rfl rfl (Nat.le_of_ble_eq_true rfl) (Nat.le_of_ble_eq_true rfl) (kc' := 0) (ks' := 0) rfl rfl (fun u12 h => ?_)
    refine E_aload_n dX7_doPass_51 rfl rfl ?_
    refine E_aload_n dX7_doPass_52 rfl rfl ?_
    refine F_Vi h (fun a m e => tX1_theDay e) dX7_doPass_53 hm_X1_theDay hv_X1_theDay ln_X7_133 rfl rfl (Nat.le_of_ble_eq_true rfl) (Nat.le_of_ble_eq_true rfl) (kc' := 0) (ks' := 0) rfl rfl (fun v13 u14 h => ?_)
    refine E_iconst (v := 1) dX7_doPass_56 (by decide) ?_
    refine E_iadd dX7_doPass_57 ?_
    refine F_Vv h (fun m e => tX1_setDay e) dX7_doPass_58 hm_X1_setDay hv_X1_setDay ln_X7_141 rfl rfl (Nat.le_of_ble_eq_true rfl) (Nat.le_of_ble_eq_true rfl) (kc' := 0) (ks' := 0) rfl rfl (fun u15 h => ?_)
    refine E_aload_n dX7_doPass_61 rfl rfl ?_
    refine F_Vi h (fun a m e => tX1_theDay e) dX7_doPass_62 hm_X1_theDay hv_X1_theDay ln_X7_133 rfl rfl (Nat.le_of_ble_eq_true rfl) (Nat.le_of_ble_eq_true rfl) (kc' := 0) (ks' := 0) rfl rfl (fun v16 u17 h => ?_)
    exact E_iret h dX7_doPass_65 rfl
  · refine E_bipush (v := (-3)) dX7_doPass_10 (by decide) ?_
    exact E_iret h dX7_doPass_12 rfl
def fX7_nextDraw (u : Mm) (x0 : Int32) : Option (Int32 × Mm) := (if (1000003 : Int64) ≠ 0 then some (Int64.toInt32 ((((Int32.toInt64 x0) * 1103) + 12345) - (((Int32.toInt64 x0) * 1103) + 12345) / 1000003 * 1000003), u) else none)
set_option maxRecDepth 100000 in
set_option maxHeartbeats 4000000 in
theorem tX7_nextDraw {u : Mm} {x0 : Int32} {r : Int32} {u' : Mm} (h : fX7_nextDraw u x0 = some (r, u')) : Ev 0 MX7_nextDraw 0 0 [.int x0] u (some (.int r), u') := by
  refine Ev.of (by decide +kernel) (Nat.le_of_ble_eq_true rfl) (show Eg MX7_nextDraw 0 0 0 (some (.int r), u') 0 [(0, .int x0)] [] u from ?_)
  unfold fX7_nextDraw at h
  refine E_iload_n dX7_nextDraw_0 rfl rfl ?_
  refine E_i2l dX7_nextDraw_1 ?_
  refine E_ldc2 dX7_nextDraw_2 rfl cn_X7_158 ?_
  refine E_lmul dX7_nextDraw_5 ?_
  refine E_ldc2 dX7_nextDraw_6 rfl cn_X7_160 ?_
  refine E_ladd dX7_nextDraw_9 ?_
  refine E_ldc2 dX7_nextDraw_10 rfl cn_X7_162 ?_
  refine E_lrem h dX7_nextDraw_13 (fun h => ?_)
  refine E_l2i dX7_nextDraw_14 ?_
  exact E_iret h dX7_nextDraw_15 rfl
def bX7_runDecades_105 (k9 : Mm → Nat → Nat → Int32 → Int32 → Int32 → Int32 → Option (Int32 × Mm)) (u : Mm) (a0 : Nat) (a1 : Nat) (x3 : Int32) (x4 : Int32) (x5 : Int32) (x6 : Int32) : Option (Int32 × Mm) := oR u a0 7 (oB (fX7_doPass u a0 a1) (fun v12 u13 => k9 u13 a0 a1 x3 x4 x5 (x6 + 1)))
set_option maxRecDepth 100000 in
set_option maxHeartbeats 4000000 in
theorem pX7_runDecades_105 {r : Int32} {u' : Mm} {k9 : Mm → Nat → Nat → Int32 → Int32 → Int32 → Int32 → Option (Int32 × Mm)} (hk9 : ∀ (u : Mm) (a0 : Nat) (a1 : Nat) (x3 : Int32) (x4 : Int32) (x5 : Int32) (x6 : Int32), k9 u a0 a1 x3 x4 x5 x6 = some (r, u') → Eg MX7_runDecades 5 0 0 (some (.int r), u') 9 [(0, .ref a0), (1, .ref a1), (3, .int x3), (4, .int x4), (5, .int x5), (6, .int x6)] [] u) (u : Mm) (a0 : Nat) (a1 : Nat) (x3 : Int32) (x4 : Int32) (x5 : Int32) (x6 : Int32) (h : bX7_runDecades_105 k9 u a0 a1 x3 x4 x5 x6 = some (r, u')) : Eg MX7_runDecades 5 0 0 (some (.int r), u') 105 [(0, .ref a0), (1, .ref a1), (3, .int x3), (4, .int x4), (5, .int x5), (6, .int x6)] [] u := by
  unfold bX7_runDecades_105 at h
  refine E_aload_n dX7_runDecades_105 rfl rfl ?_
  refine E_aload_n dX7_runDecades_106 rfl rfl ?_
  refine F_Vi h (fun a m e => tX7_doPass e) dX7_runDecades_107 hm_X7_doPass hv_X7_doPass ln_X7_154 rfl rfl (Nat.le_of_ble_eq_true rfl) (Nat.le_of_ble_eq_true rfl) (kc' := 0) (ks' := 0) rfl rfl (fun v12 u13 h => ?_)
  refine E_pop dX7_runDecades_110 rfl ?_
  refine E_iinc (j := 5) (v := x6 + 1) (l' := [(6, .int (x6 + 1)), (0, .ref a0), (1, .ref a1), (3, .int x3), (4, .int x4), (5, .int x5)]) dX7_runDecades_111 rfl (addI (by decide)) (Nat.le_of_ble_eq_true rfl) rfl ?_
  refine E_goto (tgt := 9) dX7_runDecades_114 (by decide) ?_
  refine Eg.pick [1, 2, 3, 4, 5, 0] rfl ?_
  exact hk9 _ _ _ _ _ _ _ h
def bX7_runDecades_89 (k9 : Mm → Nat → Nat → Int32 → Int32 → Int32 → Int32 → Option (Int32 × Mm)) (u : Mm) (a0 : Nat) (a1 : Nat) (x3 : Int32) (x4 : Int32) (x5 : Int32) (x6 : Int32) (x7 : Int32) (x8 : Int32) (x9 : Int32) : Option (Int32 × Mm) := (if (x9 : Int32) = 1 then oR u a0 7 (oB (fX7_doShow u a0 a1 x8 x7) (fun v14 u15 => bX7_runDecades_105 k9 u15 a0 a1 x3 x4 x5 x6)) else bX7_runDecades_105 k9 u a0 a1 x3 x4 x5 x6)
set_option maxRecDepth 100000 in
set_option maxHeartbeats 4000000 in
theorem pX7_runDecades_89 {r : Int32} {u' : Mm} {k9 : Mm → Nat → Nat → Int32 → Int32 → Int32 → Int32 → Option (Int32 × Mm)} (hk9 : ∀ (u : Mm) (a0 : Nat) (a1 : Nat) (x3 : Int32) (x4 : Int32) (x5 : Int32) (x6 : Int32), k9 u a0 a1 x3 x4 x5 x6 = some (r, u') → Eg MX7_runDecades 5 0 0 (some (.int r), u') 9 [(0, .ref a0), (1, .ref a1), (3, .int x3), (4, .int x4), (5, .int x5), (6, .int x6)] [] u) (u : Mm) (a0 : Nat) (a1 : Nat) (x3 : Int32) (x4 : Int32) (x5 : Int32) (x6 : Int32) (x7 : Int32) (x8 : Int32) (x9 : Int32) (h : bX7_runDecades_89 k9 u a0 a1 x3 x4 x5 x6 x7 x8 x9 = some (r, u')) : Eg MX7_runDecades 5 0 0 (some (.int r), u') 89 [(0, .ref a0), (1, .ref a1), (3, .int x3), (4, .int x4), (5, .int x5), (6, .int x6), (7, .int x7), (8, .int x8), (9, .int x9)] [] u := by
  unfold bX7_runDecades_89 at h
  refine E_iload dX7_runDecades_89 rfl ?_
  refine E_iconst (v := 1) dX7_runDecades_91 (by decide) ?_
  refine E_ic_ne (tgt := 105) h dX7_runDecades_92 (by decide) (fun h => ?_) (fun h => ?_)
  · refine Eg.pick [0, 1, 2, 3, 4, 5] rfl ?_
    exact pX7_runDecades_105 hk9 _ _ _ _ _ _ _ h
  · refine E_aload_n dX7_runDecades_95 rfl rfl ?_
    refine E_aload_n dX7_runDecades_96 rfl rfl ?_
    refine E_iload dX7_runDecades_97 rfl ?_
    refine E_iload dX7_runDecades_99 rfl ?_
    refine F_Vi h (fun a m e => tX7_doShow e) dX7_runDecades_101 hm_X7_doShow hv_X7_doShow ln_X7_151 rfl rfl (Nat.le_of_ble_eq_true rfl) (Nat.le_of_ble_eq_true rfl) (kc' := 0) (ks' := 0) rfl rfl (fun v14 u15 h => ?_)
    refine E_pop dX7_runDecades_104 rfl ?_
    refine Eg.pick [0, 1, 2, 3, 4, 5] rfl ?_
    exact pX7_runDecades_105 hk9 _ _ _ _ _ _ _ h
def bX7_runDecades_9 (k9 : Mm → Nat → Nat → Int32 → Int32 → Int32 → Int32 → Option (Int32 × Mm)) (u : Mm) (a0 : Nat) (a1 : Nat) (x3 : Int32) (x4 : Int32) (x5 : Int32) (x6 : Int32) : Option (Int32 × Mm) := (if (x3 : Int32) ≤ x6 then some (x4, u) else oR u a1 1 (oB (fX1_theDay u a1) (fun v1 u2 => (if (999 : Int32) ≤ v1 then some (x4, u2) else oB (fX7_nextDraw u2 x5) (fun v3 u4 => (if (2 : Int32) ≠ 0 then oI (v3 - v3 / 2 * 2) (fun v5 => oB (fX7_nextDraw u4 v3) (fun v6 u7 => (if (8 : Int32) ≠ 0 then oI (v6 - v6 / 8 * 8) (fun v8 => oB (fX7_nextDraw u7 v6) (fun v9 u10 => (if (3 : Int32) ≠ 0 then oI (v9 - v9 / 3 * 3) (fun v11 => (if (v11 : Int32) = 0 then oR u10 a0 7 (oB (fX7_doAttack u10 a0 a1 v5 v8) (fun v16 u17 => (if (v16 : Int32) = 1 then bX7_runDecades_105 k9 u17 a0 a1 x3 (x4 + 1) v9 x6 else bX7_runDecades_89 k9 u17 a0 a1 x3 x4 v9 x6 v5 v8 v11))) else bX7_runDecades_89 k9 u10 a0 a1 x3 x4 v9 x6 v5 v8 v11)) else none))) else none))) else none))))))
set_option maxRecDepth 100000 in
set_option maxHeartbeats 4000000 in
theorem pX7_runDecades_9 {r : Int32} {u' : Mm} {k9 : Mm → Nat → Nat → Int32 → Int32 → Int32 → Int32 → Option (Int32 × Mm)} (hk9 : ∀ (u : Mm) (a0 : Nat) (a1 : Nat) (x3 : Int32) (x4 : Int32) (x5 : Int32) (x6 : Int32), k9 u a0 a1 x3 x4 x5 x6 = some (r, u') → Eg MX7_runDecades 5 0 0 (some (.int r), u') 9 [(0, .ref a0), (1, .ref a1), (3, .int x3), (4, .int x4), (5, .int x5), (6, .int x6)] [] u) (u : Mm) (a0 : Nat) (a1 : Nat) (x3 : Int32) (x4 : Int32) (x5 : Int32) (x6 : Int32) (h : bX7_runDecades_9 k9 u a0 a1 x3 x4 x5 x6 = some (r, u')) : Eg MX7_runDecades 5 0 0 (some (.int r), u') 9 [(0, .ref a0), (1, .ref a1), (3, .int x3), (4, .int x4), (5, .int x5), (6, .int x6)] [] u := by
  unfold bX7_runDecades_9 at h
  refine E_iload dX7_runDecades_9 rfl ?_
  refine E_iload_n dX7_runDecades_11 rfl rfl ?_
  refine E_ic_ge (tgt := 117) h dX7_runDecades_12 (by decide) (fun h => ?_) (fun h => ?_)
  · refine E_iload dX7_runDecades_117 rfl ?_
    exact E_iret h dX7_runDecades_119 rfl
  · refine E_aload_n dX7_runDecades_15 rfl rfl ?_
    refine F_Vi h (fun a m e => tX1_theDay e) dX7_runDecades_16 hm_X1_theDay hv_X1_theDay ln_X7_133 rfl rfl (Nat.le_of_ble_eq_true rfl) (Nat.le_of_ble_eq_true rfl) (kc' := 0) (ks' := 0) rfl rfl (fun v1 u2 h => ?_)
    refine E_sipush (v := 999) dX7_runDecades_19 (by decide) ?_
    refine E_ic_ge (tgt := 117) h dX7_runDecades_22 (by decide) (fun h => ?_) (fun h => ?_)
    · refine E_iload dX7_runDecades_117 rfl ?_
      exact E_iret h dX7_runDecades_119 rfl
    · refine E_iload dX7_runDecades_25 rfl ?_
      refine F_Si h (fun a m e => tX7_nextDraw e) dX7_runDecades_27 hm_X7_nextDraw hs_X7_nextDraw ln_X7_145 rfl rfl (Nat.le_of_ble_eq_true rfl) (Nat.le_of_ble_eq_true rfl) (kc' := 0) (ks' := 0) rfl rfl (fun v3 u4 h => ?_)
      refine E_istore (l' := [(5, .int v3), (0, .ref a0), (1, .ref a1), (3, .int x3), (4, .int x4), (6, .int x6)]) dX7_runDecades_30 (Nat.le_of_ble_eq_true rfl) rfl ?_
      refine E_iload dX7_runDecades_32 rfl ?_
      refine E_iconst (v := 2) dX7_runDecades_34 (by decide) ?_
      refine E_irem h dX7_runDecades_35 (fun h => ?_)
      refine E_oI h (fun v5 h => ?_)
      refine E_istore (l' := [(7, .int v5), (5, .int v3), (0, .ref a0), (1, .ref a1), (3, .int x3), (4, .int x4), (6, .int x6)]) dX7_runDecades_36 (Nat.le_of_ble_eq_true rfl) rfl ?_
      refine E_iload dX7_runDecades_38 rfl ?_
      refine F_Si h (fun a m e => tX7_nextDraw e) dX7_runDecades_40 hm_X7_nextDraw hs_X7_nextDraw ln_X7_145 rfl rfl (Nat.le_of_ble_eq_true rfl) (Nat.le_of_ble_eq_true rfl) (kc' := 0) (ks' := 0) rfl rfl (fun v6 u7 h => ?_)
      refine E_istore (l' := [(5, .int v6), (7, .int v5), (0, .ref a0), (1, .ref a1), (3, .int x3), (4, .int x4), (6, .int x6)]) dX7_runDecades_43 (Nat.le_of_ble_eq_true rfl) rfl ?_
      refine E_iload dX7_runDecades_45 rfl ?_
      refine E_bipush (v := 8) dX7_runDecades_47 (by decide) ?_
      refine E_irem h dX7_runDecades_49 (fun h => ?_)
      refine E_oI h (fun v8 h => ?_)
      refine E_istore (l' := [(8, .int v8), (5, .int v6), (7, .int v5), (0, .ref a0), (1, .ref a1), (3, .int x3), (4, .int x4), (6, .int x6)]) dX7_runDecades_50 (Nat.le_of_ble_eq_true rfl) rfl ?_
      refine E_iload dX7_runDecades_52 rfl ?_
      refine F_Si h (fun a m e => tX7_nextDraw e) dX7_runDecades_54 hm_X7_nextDraw hs_X7_nextDraw ln_X7_145 rfl rfl (Nat.le_of_ble_eq_true rfl) (Nat.le_of_ble_eq_true rfl) (kc' := 0) (ks' := 0) rfl rfl (fun v9 u10 h => ?_)
      refine E_istore (l' := [(5, .int v9), (8, .int v8), (7, .int v5), (0, .ref a0), (1, .ref a1), (3, .int x3), (4, .int x4), (6, .int x6)]) dX7_runDecades_57 (Nat.le_of_ble_eq_true rfl) rfl ?_
      refine E_iload dX7_runDecades_59 rfl ?_
      refine E_iconst (v := 3) dX7_runDecades_61 (by decide) ?_
      refine E_irem h dX7_runDecades_62 (fun h => ?_)
      refine E_oI h (fun v11 h => ?_)
      refine E_istore (l' := [(9, .int v11), (5, .int v9), (8, .int v8), (7, .int v5), (0, .ref a0), (1, .ref a1), (3, .int x3), (4, .int x4), (6, .int x6)]) dX7_runDecades_63 (Nat.le_of_ble_eq_true rfl) rfl ?_
      refine E_iload dX7_runDecades_65 rfl ?_
      refine E_if_ne (tgt := 89) h dX7_runDecades_67 (by decide) (fun h => ?_) (fun h => ?_)
      · refine Eg.pick [4, 5, 6, 7, 1, 8, 3, 2, 0] rfl ?_
        exact pX7_runDecades_89 hk9 _ _ _ _ _ _ _ _ _ _ h
      · refine E_aload_n dX7_runDecades_70 rfl rfl ?_
        refine E_aload_n dX7_runDecades_71 rfl rfl ?_
        refine E_iload dX7_runDecades_72 rfl ?_
        refine E_iload dX7_runDecades_74 rfl ?_
        refine F_Vi h (fun a m e => tX7_doAttack e) dX7_runDecades_76 hm_X7_doAttack hv_X7_doAttack ln_X7_148 rfl rfl (Nat.le_of_ble_eq_true rfl) (Nat.le_of_ble_eq_true rfl) (kc' := 0) (ks' := 0) rfl rfl (fun v16 u17 h => ?_)
        refine E_iconst (v := 1) dX7_runDecades_79 (by decide) ?_
        refine E_ic_ne (tgt := 89) h dX7_runDecades_80 (by decide) (fun h => ?_) (fun h => ?_)
        · refine Eg.pick [4, 5, 6, 7, 1, 8, 3, 2, 0] rfl ?_
          exact pX7_runDecades_89 hk9 _ _ _ _ _ _ _ _ _ _ h
        · refine E_iinc (j := 7) (v := x4 + 1) (l' := [(4, .int (x4 + 1)), (9, .int v11), (5, .int v9), (8, .int v8), (7, .int v5), (0, .ref a0), (1, .ref a1), (3, .int x3), (6, .int x6)]) dX7_runDecades_83 rfl (addI (by decide)) (Nat.le_of_ble_eq_true rfl) rfl ?_
          refine E_goto (tgt := 105) dX7_runDecades_86 (by decide) ?_
          refine Eg.pick [5, 6, 7, 0, 2, 8] rfl ?_
          exact pX7_runDecades_105 hk9 _ _ _ _ _ _ _ h
def rX7_runDecades_9 : Nat → Mm → Nat → Nat → Int32 → Int32 → Int32 → Int32 → Option (Int32 × Mm)
  | 0, _, _, _, _, _, _, _ => none
  | n + 1, u, a0, a1, x3, x4, x5, x6 => bX7_runDecades_9 (rX7_runDecades_9 n) u a0 a1 x3 x4 x5 x6
theorem prX7_runDecades_9 {r : Int32} {u' : Mm} : ∀ (n : Nat) (u : Mm) (a0 : Nat) (a1 : Nat) (x3 : Int32) (x4 : Int32) (x5 : Int32) (x6 : Int32), rX7_runDecades_9 n u a0 a1 x3 x4 x5 x6 = some (r, u') → Eg MX7_runDecades 5 0 0 (some (.int r), u') 9 [(0, .ref a0), (1, .ref a1), (3, .int x3), (4, .int x4), (5, .int x5), (6, .int x6)] [] u
  | 0, _, _, _, _, _, _, _, h => by cases h
  | n + 1, u, a0, a1, x3, x4, x5, x6, h => pX7_runDecades_9 (prX7_runDecades_9 n) u a0 a1 x3 x4 x5 x6 h
def fX7_runDecades (u : Mm) (a0 : Nat) (a1 : Nat) (x2 : Int32) (x3 : Int32) : Option (Int32 × Mm) := rX7_runDecades_9 hwF u a0 a1 x3 0 x2 0
set_option maxRecDepth 100000 in
set_option maxHeartbeats 4000000 in
theorem tX7_runDecades {u : Mm} {a0 : Nat} {a1 : Nat} {x2 : Int32} {x3 : Int32} {r : Int32} {u' : Mm} (h : fX7_runDecades u a0 a1 x2 x3 = some (r, u')) : Ev 5 MX7_runDecades 0 0 [.ref a0, .ref a1, .int x2, .int x3] u (some (.int r), u') := by
  refine Ev.of (by decide +kernel) (Nat.le_of_ble_eq_true rfl) (show Eg MX7_runDecades 5 0 0 (some (.int r), u') 0 [(0, .ref a0), (1, .ref a1), (2, .int x2), (3, .int x3)] [] u from ?_)
  unfold fX7_runDecades at h
  refine E_iconst (v := 0) dX7_runDecades_0 (by decide) ?_
  refine E_istore (l' := [(4, .int 0), (0, .ref a0), (1, .ref a1), (2, .int x2), (3, .int x3)]) dX7_runDecades_1 (Nat.le_of_ble_eq_true rfl) rfl ?_
  refine E_iload_n dX7_runDecades_3 rfl rfl ?_
  refine E_istore (l' := [(5, .int x2), (4, .int 0), (0, .ref a0), (1, .ref a1), (2, .int x2), (3, .int x3)]) dX7_runDecades_4 (Nat.le_of_ble_eq_true rfl) rfl ?_
  refine E_iconst (v := 0) dX7_runDecades_6 (by decide) ?_
  refine E_istore (l' := [(6, .int 0), (5, .int x2), (4, .int 0), (0, .ref a0), (1, .ref a1), (2, .int x2), (3, .int x3)]) dX7_runDecades_7 (Nat.le_of_ble_eq_true rfl) rfl ?_
  refine Eg.pick [3, 4, 6, 2, 1, 0] rfl ?_
  exact prX7_runDecades_9 _ _ _ _ _ _ _ _ h
def fX8_init (u : Mm) (a0 : Nat) : Option (Unit × Mm) := oP (mN u) (fun e1 => oU (wN u 0 16) (fun u2 => oB (fX0_init u2 e1) (fun _ u3 => oK u3 a0 8 19 (oU (wR u3 a0 (va_up (mR u3 a0) 0 (some e1))) (fun u4 => oP (mN u4) (fun e5 => oU (wN u4 7 2) (fun u6 => oK u6 a0 8 19 (oNn (mR u6 a0 0) (fun e7 => oB (fX7_init u6 e5 e7) (fun _ u8 => oK u8 a0 8 19 (oU (wR u8 a0 (va_up (mR u8 a0) 1 (some e5))) (fun u9 => oP (mN u9) (fun e10 => oU (wN u9 2 3) (fun u11 => oK u11 a0 8 19 (oNn (mR u11 a0 0) (fun e12 => oK u11 a0 8 19 (oNn (mR u11 a0 1) (fun e13 => oB (fX2_init u11 e10 e12 e13) (fun _ u14 => oK u14 a0 8 19 (oU (wR u14 a0 (va_up (mR u14 a0) 2 (some e10))) (fun u15 => oP (mN u15) (fun e16 => oU (wN u15 4 8) (fun u17 => oB (fX4_init u17 e16) (fun _ u18 => oK u18 a0 8 19 (oU (wR u18 a0 (va_up (mR u18 a0) 3 (some e16))) (fun u19 => oN 2 2 (oP (mN u19) (fun e20 => oU (wN u19 13 (Int32.toNatClampNeg 2)) (fun u21 => oK u21 a0 8 19 (oU (wR u21 a0 (va_up (mR u21 a0) 4 (some e20))) (fun u22 => oP (mN u22) (fun e23 => oU (wN u22 3 4) (fun u24 => oB (fX3_init u24 e23) (fun _ u25 => oK u25 a0 8 19 (oU (wR u25 a0 (va_up (mR u25 a0) 5 (some e23))) (fun u26 => oP (mN u26) (fun e27 => oU (wN u26 3 4) (fun u28 => oB (fX3_init u28 e27) (fun _ u29 => oK u29 a0 8 19 (oU (wR u29 a0 (va_up (mR u29 a0) 6 (some e27))) (fun u30 => oP (mN u30) (fun e31 => oU (wN u30 1 1) (fun u32 => oB (fX1_init u32 e31) (fun _ u33 => oK u33 a0 8 19 (oU (wR u33 a0 (va_up (mR u33 a0) 7 (some e31))) (fun u34 => oP (mN u34) (fun e35 => oU (wN u34 1 1) (fun u36 => oB (fX1_init u36 e35) (fun _ u37 => oK u37 a0 8 19 (oU (wR u37 a0 (va_up (mR u37 a0) 8 (some e35))) (fun u38 => oP (mN u38) (fun e39 => oU (wN u38 1 1) (fun u40 => oB (fX1_init u40 e39) (fun _ u41 => oK u41 a0 8 19 (oU (wR u41 a0 (va_up (mR u41 a0) 9 (some e39))) (fun u42 => oN 400 400 (oP (mN u42) (fun e43 => oU (wN u42 10 (Int32.toNatClampNeg 400)) (fun u44 => oK u44 a0 8 19 (oU (wR u44 a0 (va_up (mR u44 a0) 11 (some e43))) (fun u45 => oK u45 a0 8 19 (oU (wI u45 a0 (upd (mI u45 a0) 13 ((-1)))) (fun u46 => oK u46 a0 8 19 (oU (wI u46 a0 (upd (mI u46 a0) 15 ((-1)))) (fun u47 => oN 3 3 (oP (mN u47) (fun e48 => oU (wN u47 10 (Int32.toNatClampNeg 3)) (fun u49 => oK u49 a0 8 19 (oU (wR u49 a0 (va_up (mR u49 a0) 16 (some e48))) (fun u50 => oN 6 6 (oP (mN u50) (fun e51 => oU (wN u50 10 (Int32.toNatClampNeg 6)) (fun u52 => oK u52 a0 8 19 (oU (wR u52 a0 (va_up (mR u52 a0) 17 (some e51))) (fun u53 => some ((), u53))))))))))))))))))))))))))))))))))))))))))))))))))))))))))))))))))))))))))))
set_option maxRecDepth 100000 in
set_option maxHeartbeats 4000000 in
theorem tX8_init {u : Mm} {a0 : Nat} {r : Unit} {u' : Mm} (h : fX8_init u a0 = some (r, u')) : Ev 3 MX8_init 44 3786 [.ref a0] u (none, u') := by
  refine Ev.of (by decide +kernel) (Nat.le_of_ble_eq_true rfl) (show Eg MX8_init 3 44 3786 (none, u') 0 [(0, .ref a0)] [] u from ?_)
  unfold fX8_init at h
  refine E_aload_n dX8_init_0 rfl rfl ?_
  refine E_objInit dX8_init_1 ln_X8_1 oi_2 oi_3 (Nat.le_of_ble_eq_true rfl) (Nat.le_of_ble_eq_true rfl) ?_
  refine E_aload_n dX8_init_4 rfl rfl ?_
  refine E_new dX8_init_5 cf0 cl_X8_7 in_X0 ini_X0 nf_X0 (kc' := 43) (ks' := 3770) rfl rfl ?_
  refine E_oP h (fun e1 h => ?_)
  refine E_oU h (fun u2 h => ?_)
  refine E_dup dX8_init_8 rfl ?_
  refine F_Iv h (fun m e => tX0_init e) rfl dX8_init_9 hm_X0_init rfl hi_X0_init ln_X8_9 rfl rfl (Nat.le_of_ble_eq_true rfl) (Nat.le_of_ble_eq_true rfl) (kc' := 32) (ks' := 3642) rfl rfl (fun u3 h => ?_)
  refine E_putR h dX8_init_12 cf8 lk_X8_10 (by decide) (Or.inr ⟨rfl, rfl, rfl, lkm_X8_10⟩) (Or.inl ⟨_, rfl⟩) (fun h => ?_)
  refine E_oU h (fun u4 h => ?_)
  refine E_aload_n dX8_init_15 rfl rfl ?_
  refine E_new dX8_init_16 cf7 cl_X8_16 in_X7 ini_X7 nf_X7 (kc' := 31) (ks' := 3640) rfl rfl ?_
  refine E_oP h (fun e5 h => ?_)
  refine E_oU h (fun u6 h => ?_)
  refine E_dup dX8_init_19 rfl ?_
  refine E_aload_n dX8_init_20 rfl rfl ?_
  refine E_getA h dX8_init_21 cf8 lk_X8_10 (by decide) (fun _ _ _ => rfl) (fun e7 h => ?_)
  refine F_Iv h (fun m e => tX7_init e) rfl dX8_init_24 hm_X7_init rfl hi_X7_init ln_X8_18 rfl rfl (Nat.le_of_ble_eq_true rfl) (Nat.le_of_ble_eq_true rfl) (kc' := 28) (ks' := 3572) rfl rfl (fun u8 h => ?_)
  refine E_putR h dX8_init_27 cf8 lk_X8_21 (by decide) (Or.inr ⟨rfl, rfl, rfl, lkm_X8_21⟩) (Or.inl ⟨_, rfl⟩) (fun h => ?_)
  refine E_oU h (fun u9 h => ?_)
  refine E_aload_n dX8_init_30 rfl rfl ?_
  refine E_new dX8_init_31 cf2 cl_X8_25 in_X2 ini_X2 nf_X2 (kc' := 27) (ks' := 3569) rfl rfl ?_
  refine E_oP h (fun e10 h => ?_)
  refine E_oU h (fun u11 h => ?_)
  refine E_dup dX8_init_34 rfl ?_
  refine E_aload_n dX8_init_35 rfl rfl ?_
  refine E_getA h dX8_init_36 cf8 lk_X8_10 (by decide) (fun _ _ _ => rfl) (fun e12 h => ?_)
  refine E_aload_n dX8_init_39 rfl rfl ?_
  refine E_getA h dX8_init_40 cf8 lk_X8_21 (by decide) (fun _ _ _ => rfl) (fun e13 h => ?_)
  refine F_Iv h (fun m e => tX2_init e) rfl dX8_init_43 hm_X2_init rfl hi_X2_init ln_X8_27 rfl rfl (Nat.le_of_ble_eq_true rfl) (Nat.le_of_ble_eq_true rfl) (kc' := 26) (ks' := 3561) rfl rfl (fun u14 h => ?_)
  refine E_putR h dX8_init_46 cf8 lk_X8_30 (by decide) (Or.inr ⟨rfl, rfl, rfl, lkm_X8_30⟩) (Or.inl ⟨_, rfl⟩) (fun h => ?_)
  refine E_oU h (fun u15 h => ?_)
  refine E_aload_n dX8_init_49 rfl rfl ?_
  refine E_new dX8_init_50 cf4 cl_X8_34 in_X4 ini_X4 nf_X4 (kc' := 25) (ks' := 3553) rfl rfl ?_
  refine E_oP h (fun e16 h => ?_)
  refine E_oU h (fun u17 h => ?_)
  refine E_dup dX8_init_53 rfl ?_
  refine F_Iv h (fun m e => tX4_init e) rfl dX8_init_54 hm_X4_init rfl hi_X4_init ln_X8_36 rfl rfl (Nat.le_of_ble_eq_true rfl) (Nat.le_of_ble_eq_true rfl) (kc' := 16) (ks' := 1469) rfl rfl (fun u18 h => ?_)
  refine E_putR h dX8_init_57 cf8 lk_X8_37 (by decide) (Or.inr ⟨rfl, rfl, rfl, lkm_X8_37⟩) (Or.inl ⟨_, rfl⟩) (fun h => ?_)
  refine E_oU h (fun u19 h => ?_)
  refine E_aload_n dX8_init_60 rfl rfl ?_
  refine E_iconst (v := 2) dX8_init_61 (by decide) ?_
  refine E_newQ (kd := 13) (t0 := 3) (fun _ => rfl) (Or.inl rfl) (by decide) cl_X8_7 ao_13 h dX8_init_62 (kc' := 15) (ks' := 1467) rfl rfl (fun h => ?_)
  refine E_oP h (fun e20 h => ?_)
  refine E_oU h (fun u21 h => ?_)
  refine E_putR h dX8_init_65 cf8 lk_X8_41 (by decide) (Or.inr ⟨rfl, rfl, rfl, lkm_X8_41⟩) (Or.inr ⟨_, rfl⟩) (fun h => ?_)
  refine E_oU h (fun u22 h => ?_)
  refine E_aload_n dX8_init_68 rfl rfl ?_
  refine E_new dX8_init_69 cf3 cl_X8_45 in_X3 ini_X3 nf_X3 (kc' := 14) (ks' := 1463) rfl rfl ?_
  refine E_oP h (fun e23 h => ?_)
  refine E_oU h (fun u24 h => ?_)
  refine E_dup dX8_init_72 rfl ?_
  refine F_Iv h (fun m e => tX3_init e) rfl dX8_init_73 hm_X3_init rfl hi_X3_init ln_X8_47 rfl rfl (Nat.le_of_ble_eq_true rfl) (Nat.le_of_ble_eq_true rfl) (kc' := 12) (ks' := 983) rfl rfl (fun u25 h => ?_)
  refine E_putR h dX8_init_76 cf8 lk_X8_48 (by decide) (Or.inr ⟨rfl, rfl, rfl, lkm_X8_48⟩) (Or.inl ⟨_, rfl⟩) (fun h => ?_)
  refine E_oU h (fun u26 h => ?_)
  refine E_aload_n dX8_init_79 rfl rfl ?_
  refine E_new dX8_init_80 cf3 cl_X8_45 in_X3 ini_X3 nf_X3 (kc' := 11) (ks' := 979) rfl rfl ?_
  refine E_oP h (fun e27 h => ?_)
  refine E_oU h (fun u28 h => ?_)
  refine E_dup dX8_init_83 rfl ?_
  refine F_Iv h (fun m e => tX3_init e) rfl dX8_init_84 hm_X3_init rfl hi_X3_init ln_X8_47 rfl rfl (Nat.le_of_ble_eq_true rfl) (Nat.le_of_ble_eq_true rfl) (kc' := 9) (ks' := 499) rfl rfl (fun u29 h => ?_)
  refine E_putR h dX8_init_87 cf8 lk_X8_52 (by decide) (Or.inr ⟨rfl, rfl, rfl, lkm_X8_52⟩) (Or.inl ⟨_, rfl⟩) (fun h => ?_)
  refine E_oU h (fun u30 h => ?_)
  refine E_aload_n dX8_init_90 rfl rfl ?_
  refine E_new dX8_init_91 cf1 cl_X8_55 in_X1 ini_X1 nf_X1 (kc' := 8) (ks' := 498) rfl rfl ?_
  refine E_oP h (fun e31 h => ?_)
  refine E_oU h (fun u32 h => ?_)
  refine E_dup dX8_init_94 rfl ?_
  refine F_Iv h (fun m e => tX1_init e) rfl dX8_init_95 hm_X1_init rfl hi_X1_init ln_X8_57 rfl rfl (Nat.le_of_ble_eq_true rfl) (Nat.le_of_ble_eq_true rfl) (kc' := 7) (ks' := 469) rfl rfl (fun u33 h => ?_)
  refine E_putR h dX8_init_98 cf8 lk_X8_58 (by decide) (Or.inr ⟨rfl, rfl, rfl, lkm_X8_58⟩) (Or.inl ⟨_, rfl⟩) (fun h => ?_)
  refine E_oU h (fun u34 h => ?_)
  refine E_aload_n dX8_init_101 rfl rfl ?_
  refine E_new dX8_init_102 cf1 cl_X8_55 in_X1 ini_X1 nf_X1 (kc' := 6) (ks' := 468) rfl rfl ?_
  refine E_oP h (fun e35 h => ?_)
  refine E_oU h (fun u36 h => ?_)
  refine E_dup dX8_init_105 rfl ?_
  refine F_Iv h (fun m e => tX1_init e) rfl dX8_init_106 hm_X1_init rfl hi_X1_init ln_X8_57 rfl rfl (Nat.le_of_ble_eq_true rfl) (Nat.le_of_ble_eq_true rfl) (kc' := 5) (ks' := 439) rfl rfl (fun u37 h => ?_)
  refine E_putR h dX8_init_109 cf8 lk_X8_62 (by decide) (Or.inr ⟨rfl, rfl, rfl, lkm_X8_62⟩) (Or.inl ⟨_, rfl⟩) (fun h => ?_)
  refine E_oU h (fun u38 h => ?_)
  refine E_aload_n dX8_init_112 rfl rfl ?_
  refine E_new dX8_init_113 cf1 cl_X8_55 in_X1 ini_X1 nf_X1 (kc' := 4) (ks' := 438) rfl rfl ?_
  refine E_oP h (fun e39 h => ?_)
  refine E_oU h (fun u40 h => ?_)
  refine E_dup dX8_init_116 rfl ?_
  refine F_Iv h (fun m e => tX1_init e) rfl dX8_init_117 hm_X1_init rfl hi_X1_init ln_X8_57 rfl rfl (Nat.le_of_ble_eq_true rfl) (Nat.le_of_ble_eq_true rfl) (kc' := 3) (ks' := 409) rfl rfl (fun u41 h => ?_)
  refine E_putR h dX8_init_120 cf8 lk_X8_65 (by decide) (Or.inr ⟨rfl, rfl, rfl, lkm_X8_65⟩) (Or.inl ⟨_, rfl⟩) (fun h => ?_)
  refine E_oU h (fun u42 h => ?_)
  refine E_aload_n dX8_init_123 rfl rfl ?_
  refine E_sipush (v := 400) dX8_init_124 (by decide) ?_
  refine E_newI h dX8_init_127 aw_int (by decide) (kc' := 2) (ks' := 9) rfl rfl (fun h => ?_)
  refine E_oP h (fun e43 h => ?_)
  refine E_oU h (fun u44 h => ?_)
  refine E_putR h dX8_init_129 cf8 lk_X8_68 (by decide) (Or.inr ⟨rfl, rfl, rfl, lkm_X8_68⟩) (Or.inr ⟨_, rfl⟩) (fun h => ?_)
  refine E_oU h (fun u45 h => ?_)
  refine E_aload_n dX8_init_132 rfl rfl ?_
  refine E_iconst (v := (-1)) dX8_init_133 (by decide) ?_
  refine E_putI h dX8_init_134 cf8 lk_X8_72 (by decide) (Or.inl rfl) rfl (fun h => ?_)
  refine E_oU h (fun u46 h => ?_)
  refine E_aload_n dX8_init_137 rfl rfl ?_
  refine E_iconst (v := (-1)) dX8_init_138 (by decide) ?_
  refine E_putI h dX8_init_139 cf8 lk_X8_76 (by decide) (Or.inl rfl) rfl (fun h => ?_)
  refine E_oU h (fun u47 h => ?_)
  refine E_aload_n dX8_init_142 rfl rfl ?_
  refine E_iconst (v := 3) dX8_init_143 (by decide) ?_
  refine E_newI h dX8_init_144 aw_int (by decide) (kc' := 1) (ks' := 6) rfl rfl (fun h => ?_)
  refine E_oP h (fun e48 h => ?_)
  refine E_oU h (fun u49 h => ?_)
  refine E_putR h dX8_init_146 cf8 lk_X8_79 (by decide) (Or.inr ⟨rfl, rfl, rfl, lkm_X8_79⟩) (Or.inr ⟨_, rfl⟩) (fun h => ?_)
  refine E_oU h (fun u50 h => ?_)
  refine E_aload_n dX8_init_149 rfl rfl ?_
  refine E_bipush (v := 6) dX8_init_150 (by decide) ?_
  refine E_newI h dX8_init_152 aw_int (by decide) (kc' := 0) (ks' := 0) rfl rfl (fun h => ?_)
  refine E_oP h (fun e51 h => ?_)
  refine E_oU h (fun u52 h => ?_)
  refine E_putR h dX8_init_154 cf8 lk_X8_82 (by decide) (Or.inr ⟨rfl, rfl, rfl, lkm_X8_82⟩) (Or.inr ⟨_, rfl⟩) (fun h => ?_)
  refine E_oU h (fun u53 h => ?_)
  exact E_vret h dX8_init_157 rfl
def fX8_refuse (u : Mm) (a0 : Nat) (x1 : Int32) : Option (Int32 × Mm) := oK u a0 8 19 (oU (wI u a0 (upd (mI u a0) 18 x1)) (fun u1 => oB (fX8_within u1 x1 ((-6)) ((-1))) (fun v2 u3 => (if (v2 : Int32) = 0 then some (x1, u3) else oK u3 a0 8 19 (oNn (mR u3 a0 17) (fun e4 => oI ((-x1) - 1) (fun v5 => oA u3 e4 10 v5 (oI (mI u3 e4 (Int32.toNatClampNeg v5)) (fun v6 => oA u3 e4 10 v5 (oU (wI u3 e4 (upd (mI u3 e4) (Int32.toNatClampNeg v5) (v6 + 1))) (fun u7 => some (x1, u7))))))))))))
set_option maxRecDepth 100000 in
set_option maxHeartbeats 4000000 in
theorem tX8_refuse {u : Mm} {a0 : Nat} {x1 : Int32} {r : Int32} {u' : Mm} (h : fX8_refuse u a0 x1 = some (r, u')) : Ev 1 MX8_refuse 0 0 [.ref a0, .int x1] u (some (.int r), u') := by
  refine Ev.of (by decide +kernel) (Nat.le_of_ble_eq_true rfl) (show Eg MX8_refuse 1 0 0 (some (.int r), u') 0 [(0, .ref a0), (1, .int x1)] [] u from ?_)
  unfold fX8_refuse at h
  refine E_aload_n dX8_refuse_0 rfl rfl ?_
  refine E_iload_n dX8_refuse_1 rfl rfl ?_
  refine E_putI h dX8_refuse_2 cf8 lk_X8_335 (by decide) (Or.inl rfl) rfl (fun h => ?_)
  refine E_oU h (fun u1 h => ?_)
  refine E_iload_n dX8_refuse_5 rfl rfl ?_
  refine E_bipush (v := (-6)) dX8_refuse_6 (by decide) ?_
  refine E_iconst (v := (-1)) dX8_refuse_8 (by decide) ?_
  refine F_Si h (fun a m e => tX8_within e) dX8_refuse_9 hm_X8_within hs_X8_within ln_X8_92 rfl rfl (Nat.le_of_ble_eq_true rfl) (Nat.le_of_ble_eq_true rfl) (kc' := 0) (ks' := 0) rfl rfl (fun v2 u3 h => ?_)
  refine E_if_eq (tgt := 28) h dX8_refuse_12 (by decide) (fun h => ?_) (fun h => ?_)
  · refine E_iload_n dX8_refuse_28 rfl rfl ?_
    exact E_iret h dX8_refuse_29 rfl
  · refine E_aload_n dX8_refuse_15 rfl rfl ?_
    refine E_getA h dX8_refuse_16 cf8 lk_X8_82 (by decide) (fun _ _ _ => rfl) (fun e4 h => ?_)
    refine E_iload_n dX8_refuse_19 rfl rfl ?_
    refine E_ineg dX8_refuse_20 ?_
    refine E_iconst (v := 1) dX8_refuse_21 (by decide) ?_
    refine E_isub dX8_refuse_22 ?_
    refine E_oI h (fun v5 h => ?_)
    refine E_dup2 dX8_refuse_23 rfl rfl ?_
    refine E_iald h dX8_refuse_24 (fun h => ?_)
    refine E_oI h (fun v6 h => ?_)
    refine E_iconst (v := 1) dX8_refuse_25 (by decide) ?_
    refine E_iadd dX8_refuse_26 ?_
    refine E_iast h dX8_refuse_27 (fun h => ?_)
    refine E_oU h (fun u7 h => ?_)
    refine E_iload_n dX8_refuse_28 rfl rfl ?_
    exact E_iret h dX8_refuse_29 rfl
def fX8_accept (u : Mm) (a0 : Nat) (x1 : Int32) : Option (Int32 × Mm) := oK u a0 8 19 (oU (wI u a0 (upd (mI u a0) 18 0)) (fun u1 => some (x1, u1)))
set_option maxRecDepth 100000 in
set_option maxHeartbeats 4000000 in
theorem tX8_accept {u : Mm} {a0 : Nat} {x1 : Int32} {r : Int32} {u' : Mm} (h : fX8_accept u a0 x1 = some (r, u')) : Ev 0 MX8_accept 0 0 [.ref a0, .int x1] u (some (.int r), u') := by
  refine Ev.of (by decide +kernel) (Nat.le_of_ble_eq_true rfl) (show Eg MX8_accept 0 0 0 (some (.int r), u') 0 [(0, .ref a0), (1, .int x1)] [] u from ?_)
  unfold fX8_accept at h
  refine E_aload_n dX8_accept_0 rfl rfl ?_
  refine E_iconst (v := 0) dX8_accept_1 (by decide) ?_
  refine E_putI h dX8_accept_2 cf8 lk_X8_335 (by decide) (Or.inl rfl) rfl (fun h => ?_)
  refine E_oU h (fun u1 h => ?_)
  refine E_iload_n dX8_accept_5 rfl rfl ?_
  exact E_iret h dX8_accept_6 rfl
def bX8_men_24 (u : Mm) (a0 : Nat) : Option (Int32 × Mm) := oR u a0 8 (oB (fX8_refuse u a0 ((-1))) (fun v3 u4 => some (v3, u4)))
set_option maxRecDepth 100000 in
set_option maxHeartbeats 4000000 in
theorem pX8_men_24 {r : Int32} {u' : Mm} (u : Mm) (a0 : Nat) (h : bX8_men_24 u a0 = some (r, u')) : Eg MX8_men 2 0 0 (some (.int r), u') 24 [(0, .ref a0)] [] u := by
  unfold bX8_men_24 at h
  refine E_aload_n dX8_men_24 rfl rfl ?_
  refine E_iconst (v := (-1)) dX8_men_25 (by decide) ?_
  refine F_Vi h (fun a m e => tX8_refuse e) dX8_men_26 hm_X8_refuse hv_X8_refuse ln_X8_96 rfl rfl (Nat.le_of_ble_eq_true rfl) (Nat.le_of_ble_eq_true rfl) (kc' := 0) (ks' := 0) rfl rfl (fun v3 u4 h => ?_)
  exact E_iret h dX8_men_29 rfl
def fX8_men (u : Mm) (a0 : Nat) (x1 : Int32) (x2 : Int32) (x3 : Int32) : Option (Int32 × Mm) := oB (fX8_isSide u x1) (fun v1 u2 => (if (v1 : Int32) = 0 then bX8_men_24 u2 a0 else oB (fX8_isColumn u2 x2) (fun v5 u6 => (if (v5 : Int32) = 0 then bX8_men_24 u6 a0 else oB (fX8_within u6 x3 0 99) (fun v7 u8 => (if (v7 : Int32) = 0 then bX8_men_24 u8 a0 else oK u8 a0 8 19 (oNn (mR u8 a0 0) (fun e9 => oK u8 e9 0 16 (oNn (mR u8 e9 0) (fun e10 => oR u8 e10 1 (oB (fX1_menAt u8 e10 x1 x2) (fun v11 u12 => oK u12 a0 8 19 (oNn (mR u12 a0 0) (fun e13 => oK u12 e13 0 16 (oNn (mR u12 e13 0) (fun e14 => oR u12 e14 1 (oB (fX1_setMen u12 e14 x1 x2 x3) (fun _ u15 => oK u15 a0 8 19 (oNn (mR u15 a0 5) (fun e16 => oR u15 e16 3 (oB (fX3_clear u15 e16) (fun _ u17 => oR u17 a0 8 (oB (fX8_accept u17 a0 v11) (fun v18 u19 => some (v18, u19)))))))))))))))))))))))))
set_option maxRecDepth 100000 in
set_option maxHeartbeats 4000000 in
theorem tX8_men {u : Mm} {a0 : Nat} {x1 : Int32} {x2 : Int32} {x3 : Int32} {r : Int32} {u' : Mm} (h : fX8_men u a0 x1 x2 x3 = some (r, u')) : Ev 2 MX8_men 0 0 [.ref a0, .int x1, .int x2, .int x3] u (some (.int r), u') := by
  refine Ev.of (by decide +kernel) (Nat.le_of_ble_eq_true rfl) (show Eg MX8_men 2 0 0 (some (.int r), u') 0 [(0, .ref a0), (1, .int x1), (2, .int x2), (3, .int x3)] [] u from ?_)
  unfold fX8_men at h
  refine E_iload_n dX8_men_0 rfl rfl ?_
  refine F_Si h (fun a m e => tX8_isSide e) dX8_men_1 hm_X8_isSide hs_X8_isSide ln_X8_85 rfl rfl (Nat.le_of_ble_eq_true rfl) (Nat.le_of_ble_eq_true rfl) (kc' := 0) (ks' := 0) rfl rfl (fun v1 u2 h => ?_)
  refine E_if_eq (tgt := 24) h dX8_men_4 (by decide) (fun h => ?_) (fun h => ?_)
  · refine Eg.pick [0] rfl ?_
    exact pX8_men_24 _ _ h
  · refine E_iload_n dX8_men_7 rfl rfl ?_
    refine F_Si h (fun a m e => tX8_isColumn e) dX8_men_8 hm_X8_isColumn hs_X8_isColumn ln_X8_89 rfl rfl (Nat.le_of_ble_eq_true rfl) (Nat.le_of_ble_eq_true rfl) (kc' := 0) (ks' := 0) rfl rfl (fun v5 u6 h => ?_)
    refine E_if_eq (tgt := 24) h dX8_men_11 (by decide) (fun h => ?_) (fun h => ?_)
    · refine Eg.pick [0] rfl ?_
      exact pX8_men_24 _ _ h
    · refine E_iload_n dX8_men_14 rfl rfl ?_
      refine E_iconst (v := 0) dX8_men_15 (by decide) ?_
      refine E_bipush (v := 99) dX8_men_16 (by decide) ?_
      refine F_Si h (fun a m e => tX8_within e) dX8_men_18 hm_X8_within hs_X8_within ln_X8_92 rfl rfl (Nat.le_of_ble_eq_true rfl) (Nat.le_of_ble_eq_true rfl) (kc' := 0) (ks' := 0) rfl rfl (fun v7 u8 h => ?_)
      refine E_if_ne (tgt := 30) h dX8_men_21 (by decide) (fun h => ?_) (fun h => ?_)
      · refine E_aload_n dX8_men_30 rfl rfl ?_
        refine E_getA h dX8_men_31 cf8 lk_X8_10 (by decide) (fun _ _ _ => rfl) (fun e9 h => ?_)
        refine E_getA h dX8_men_34 cf0 lk_X8_100 (by decide) (fun _ _ _ => rfl) (fun e10 h => ?_)
        refine E_iload_n dX8_men_37 rfl rfl ?_
        refine E_iload_n dX8_men_38 rfl rfl ?_
        refine F_Vi h (fun a m e => tX1_menAt e) dX8_men_39 hm_X1_menAt hv_X1_menAt ln_X8_103 rfl rfl (Nat.le_of_ble_eq_true rfl) (Nat.le_of_ble_eq_true rfl) (kc' := 0) (ks' := 0) rfl rfl (fun v11 u12 h => ?_)
        refine E_istore (l' := [(4, .int v11), (0, .ref a0), (1, .int x1), (2, .int x2), (3, .int x3)]) dX8_men_42 (Nat.le_of_ble_eq_true rfl) rfl ?_
        refine E_aload_n dX8_men_44 rfl rfl ?_
        refine E_getA h dX8_men_45 cf8 lk_X8_10 (by decide) (fun _ _ _ => rfl) (fun e13 h => ?_)
        refine E_getA h dX8_men_48 cf0 lk_X8_100 (by decide) (fun _ _ _ => rfl) (fun e14 h => ?_)
        refine E_iload_n dX8_men_51 rfl rfl ?_
        refine E_iload_n dX8_men_52 rfl rfl ?_
        refine E_iload_n dX8_men_53 rfl rfl ?_
        refine F_Vv h (fun m e => tX1_setMen e) dX8_men_54 hm_X1_setMen hv_X1_setMen ln_X8_107 rfl rfl (Nat.le_of_ble_eq_true rfl) (Nat.le_of_ble_eq_true rfl) (kc' := 0) (ks' := 0) rfl rfl (fun u15 h => ?_)
        refine E_aload_n dX8_men_57 rfl rfl ?_
        refine E_getA h dX8_men_58 cf8 lk_X8_48 (by decide) (fun _ _ _ => rfl) (fun e16 h => ?_)
        refine F_Vv h (fun m e => tX3_clear e) dX8_men_61 hm_X3_clear hv_X3_clear ln_X8_111 rfl rfl (Nat.le_of_ble_eq_true rfl) (Nat.le_of_ble_eq_true rfl) (kc' := 0) (ks' := 0) rfl rfl (fun u17 h => ?_)
        refine E_aload_n dX8_men_64 rfl rfl ?_
        refine E_iload dX8_men_65 rfl ?_
        refine F_Vi h (fun a m e => tX8_accept e) dX8_men_67 hm_X8_accept hv_X8_accept ln_X8_114 rfl rfl (Nat.le_of_ble_eq_true rfl) (Nat.le_of_ble_eq_true rfl) (kc' := 0) (ks' := 0) rfl rfl (fun v18 u19 h => ?_)
        exact E_iret h dX8_men_70 rfl
      · refine Eg.pick [0] rfl ?_
        exact pX8_men_24 _ _ h
def bX8_at_70 (u : Mm) (x1 : Int32) (x2 : Int32) (a3 : Nat) : Option (Int32 × Mm) := oR u a3 1 (oB (fX1_menAt u a3 (x2 - 1) x1) (fun v7 u8 => some (v7, u8)))
set_option maxRecDepth 100000 in
set_option maxHeartbeats 4000000 in
theorem pX8_at_70 {r : Int32} {u' : Mm} (u : Mm) (x1 : Int32) (x2 : Int32) (a3 : Nat) (h : bX8_at_70 u x1 x2 a3 = some (r, u')) : Eg MX8_at 4 0 0 (some (.int r), u') 70 [(1, .int x1), (2, .int x2), (3, .ref a3)] [] u := by
  unfold bX8_at_70 at h
  refine E_aload_n dX8_at_70 rfl rfl ?_
  refine E_iload_n dX8_at_71 rfl rfl ?_
  refine E_iconst (v := 1) dX8_at_72 (by decide) ?_
  refine E_isub dX8_at_73 ?_
  refine E_iload_n dX8_at_74 rfl rfl ?_
  refine F_Vi h (fun a m e => tX1_menAt e) dX8_at_75 hm_X1_menAt hv_X1_menAt ln_X8_103 rfl rfl (Nat.le_of_ble_eq_true rfl) (Nat.le_of_ble_eq_true rfl) (kc' := 0) (ks' := 0) rfl rfl (fun v7 u8 h => ?_)
  exact E_iret h dX8_at_78 rfl
def bX8_at_79 (u : Mm) (a0 : Nat) (x1 : Int32) (x2 : Int32) (a3 : Nat) : Option (Int32 × Mm) := oK u a0 8 19 (oNn (mR u a0 1) (fun e9 => oK u a0 8 19 (oNn (mR u a0 0) (fun e10 => oR u e10 0 (oB (fX0_lawInForce u e10) (fun g11 u12 => oR u12 e9 7 (oB (fX7_costOf u12 e9 g11 a3 (x2 - 3) x1) (fun v13 u14 => some (v13, u14)))))))))
set_option maxRecDepth 100000 in
set_option maxHeartbeats 4000000 in
theorem pX8_at_79 {r : Int32} {u' : Mm} (u : Mm) (a0 : Nat) (x1 : Int32) (x2 : Int32) (a3 : Nat) (h : bX8_at_79 u a0 x1 x2 a3 = some (r, u')) : Eg MX8_at 4 0 0 (some (.int r), u') 79 [(0, .ref a0), (1, .int x1), (2, .int x2), (3, .ref a3)] [] u := by
  unfold bX8_at_79 at h
  refine E_aload_n dX8_at_79 rfl rfl ?_
  refine E_getA h dX8_at_80 cf8 lk_X8_21 (by decide) (fun _ _ _ => rfl) (fun e9 h => ?_)
  refine E_aload_n dX8_at_83 rfl rfl ?_
  refine E_getA h dX8_at_84 cf8 lk_X8_10 (by decide) (fun _ _ _ => rfl) (fun e10 h => ?_)
  refine F_Vq h (fun a m e => tX0_lawInForce e) dX8_at_87 hm_X0_lawInForce hv_X0_lawInForce ln_X8_120 rfl rfl (Nat.le_of_ble_eq_true rfl) (Nat.le_of_ble_eq_true rfl) (kc' := 0) (ks' := 0) rfl rfl (fun g11 u12 h => ?_)
  refine E_aload_n dX8_at_90 rfl rfl ?_
  refine E_iload_n dX8_at_91 rfl rfl ?_
  refine E_iconst (v := 3) dX8_at_92 (by decide) ?_
  refine E_isub dX8_at_93 ?_
  refine E_iload_n dX8_at_94 rfl rfl ?_
  refine F_Vi h (fun a m e => tX7_costOf e) dX8_at_95 hm_X7_costOf hv_X7_costOf ln_X8_124 rfl rfl (Nat.le_of_ble_eq_true rfl) (Nat.le_of_ble_eq_true rfl) (kc' := 0) (ks' := 0) rfl rfl (fun v13 u14 h => ?_)
  exact E_iret h dX8_at_98 rfl
def bX8_at_119 (u : Mm) (s0 : Int32) : Option (Int32 × Mm) := some (s0, u)
set_option maxRecDepth 100000 in
set_option maxHeartbeats 4000000 in
theorem pX8_at_119 {r : Int32} {u' : Mm} (u : Mm) (s0 : Int32) (h : bX8_at_119 u s0 = some (r, u')) : Eg MX8_at 4 0 0 (some (.int r), u') 119 [] [.int s0] u := by
  unfold bX8_at_119 at h
  exact E_iret h dX8_at_119 rfl
def bX8_at_99 (u : Mm) (a0 : Nat) (x1 : Int32) (x2 : Int32) (a3 : Nat) : Option (Int32 × Mm) := oK u a0 8 19 (oNn (mR u a0 1) (fun e15 => oR u e15 7 (oB (fX7_isBarred u e15 a3 (x2 - 5) x1) (fun v16 u17 => (if (v16 : Int32) = 0 then bX8_at_119 u17 0 else bX8_at_119 u17 1)))))
set_option maxRecDepth 100000 in
set_option maxHeartbeats 4000000 in
theorem pX8_at_99 {r : Int32} {u' : Mm} (u : Mm) (a0 : Nat) (x1 : Int32) (x2 : Int32) (a3 : Nat) (h : bX8_at_99 u a0 x1 x2 a3 = some (r, u')) : Eg MX8_at 4 0 0 (some (.int r), u') 99 [(0, .ref a0), (1, .int x1), (2, .int x2), (3, .ref a3)] [] u := by
  unfold bX8_at_99 at h
  refine E_aload_n dX8_at_99 rfl rfl ?_
  refine E_getA h dX8_at_100 cf8 lk_X8_21 (by decide) (fun _ _ _ => rfl) (fun e15 h => ?_)
  refine E_aload_n dX8_at_103 rfl rfl ?_
  refine E_iload_n dX8_at_104 rfl rfl ?_
  refine E_iconst (v := 5) dX8_at_105 (by decide) ?_
  refine E_isub dX8_at_106 ?_
  refine E_iload_n dX8_at_107 rfl rfl ?_
  refine F_Vi h (fun a m e => tX7_isBarred e) dX8_at_108 hm_X7_isBarred hv_X7_isBarred ln_X8_128 rfl rfl (Nat.le_of_ble_eq_true rfl) (Nat.le_of_ble_eq_true rfl) (kc' := 0) (ks' := 0) rfl rfl (fun v16 u17 h => ?_)
  refine E_if_eq (tgt := 118) h dX8_at_111 (by decide) (fun h => ?_) (fun h => ?_)
  · refine E_iconst (v := 0) dX8_at_118 (by decide) ?_
    refine Eg.pick [] rfl ?_
    exact pX8_at_119 _ _ h
  · refine E_iconst (v := 1) dX8_at_114 (by decide) ?_
    refine E_goto (tgt := 119) dX8_at_115 (by decide) ?_
    refine Eg.pick [] rfl ?_
    exact pX8_at_119 _ _ h
def fX8_at (u : Mm) (a0 : Nat) (x1 : Int32) (x2 : Int32) : Option (Int32 × Mm) := oB (fX8_isColumn u x1) (fun v1 u2 => (if (v1 : Int32) = 0 then some ((-1000), u2) else oK u2 a0 8 19 (oNn (mR u2 a0 0) (fun e3 => oK u2 e3 0 16 (oNn (mR u2 e3 0) (fun e4 => (if (x2 : Int32) = 0 then oR u2 e4 1 (oB (fX1_lineAt u2 e4 x1) (fun v5 u6 => some (v5, u6))) else (if (x2 : Int32) = 1 then bX8_at_70 u2 x1 x2 e4 else (if (x2 : Int32) = 2 then bX8_at_70 u2 x1 x2 e4 else (if (x2 : Int32) = 3 then bX8_at_79 u2 a0 x1 x2 e4 else (if (x2 : Int32) = 4 then bX8_at_79 u2 a0 x1 x2 e4 else (if (x2 : Int32) = 5 then bX8_at_99 u2 a0 x1 x2 e4 else (if (x2 : Int32) = 6 then bX8_at_99 u2 a0 x1 x2 e4 else some ((-1000), u2))))))))))))))
set_option maxRecDepth 100000 in
set_option maxHeartbeats 4000000 in
theorem tX8_at {u : Mm} {a0 : Nat} {x1 : Int32} {x2 : Int32} {r : Int32} {u' : Mm} (h : fX8_at u a0 x1 x2 = some (r, u')) : Ev 4 MX8_at 0 0 [.ref a0, .int x1, .int x2] u (some (.int r), u') := by
  refine Ev.of (by decide +kernel) (Nat.le_of_ble_eq_true rfl) (show Eg MX8_at 4 0 0 (some (.int r), u') 0 [(0, .ref a0), (1, .int x1), (2, .int x2)] [] u from ?_)
  unfold fX8_at at h
  refine E_iload_n dX8_at_0 rfl rfl ?_
  refine F_Si h (fun a m e => tX8_isColumn e) dX8_at_1 hm_X8_isColumn hs_X8_isColumn ln_X8_89 rfl rfl (Nat.le_of_ble_eq_true rfl) (Nat.le_of_ble_eq_true rfl) (kc' := 0) (ks' := 0) rfl rfl (fun v1 u2 h => ?_)
  refine E_if_ne (tgt := 11) h dX8_at_4 (by decide) (fun h => ?_) (fun h => ?_)
  · refine E_aload_n dX8_at_11 rfl rfl ?_
    refine E_getA h dX8_at_12 cf8 lk_X8_10 (by decide) (fun _ _ _ => rfl) (fun e3 h => ?_)
    refine E_getA h dX8_at_15 cf0 lk_X8_100 (by decide) (fun _ _ _ => rfl) (fun e4 h => ?_)
    refine E_astore_n (l' := [(3, .ref e4), (0, .ref a0), (1, .int x1), (2, .int x2)]) dX8_at_18 rfl (Nat.le_of_ble_eq_true rfl) rfl ?_
    refine E_iload_n dX8_at_19 rfl rfl ?_
    refine ite_cases h (fun c20_0 h => ?_) (fun c20_0 h => ?_)
    · refine E_tabIn (off := 44) (tgt := 64) dX8_at_20 c20_0 (by decide +kernel) (by decide +kernel) (by decide +kernel) (by decide) ?_
      refine E_aload_n dX8_at_64 rfl rfl ?_
      refine E_iload_n dX8_at_65 rfl rfl ?_
      refine F_Vi h (fun a m e => tX1_lineAt e) dX8_at_66 hm_X1_lineAt hv_X1_lineAt ln_X8_117 rfl rfl (Nat.le_of_ble_eq_true rfl) (Nat.le_of_ble_eq_true rfl) (kc' := 0) (ks' := 0) rfl rfl (fun v5 u6 h => ?_)
      exact E_iret h dX8_at_69 rfl
    · refine ite_cases h (fun c20_1 h => ?_) (fun c20_1 h => ?_)
      · refine E_tabIn (off := 50) (tgt := 70) dX8_at_20 c20_1 (by decide +kernel) (by decide +kernel) (by decide +kernel) (by decide) ?_
        refine Eg.pick [2, 3, 0] rfl ?_
        exact pX8_at_70 _ _ _ _ h
      · refine ite_cases h (fun c20_2 h => ?_) (fun c20_2 h => ?_)
        · refine E_tabIn (off := 50) (tgt := 70) dX8_at_20 c20_2 (by decide +kernel) (by decide +kernel) (by decide +kernel) (by decide) ?_
          refine Eg.pick [2, 3, 0] rfl ?_
          exact pX8_at_70 _ _ _ _ h
        · refine ite_cases h (fun c20_3 h => ?_) (fun c20_3 h => ?_)
          · refine E_tabIn (off := 59) (tgt := 79) dX8_at_20 c20_3 (by decide +kernel) (by decide +kernel) (by decide +kernel) (by decide) ?_
            refine Eg.pick [1, 2, 3, 0] rfl ?_
            exact pX8_at_79 _ _ _ _ _ h
          · refine ite_cases h (fun c20_4 h => ?_) (fun c20_4 h => ?_)
            · refine E_tabIn (off := 59) (tgt := 79) dX8_at_20 c20_4 (by decide +kernel) (by decide +kernel) (by decide +kernel) (by decide) ?_
              refine Eg.pick [1, 2, 3, 0] rfl ?_
              exact pX8_at_79 _ _ _ _ _ h
            · refine ite_cases h (fun c20_5 h => ?_) (fun c20_5 h => ?_)
              · refine E_tabIn (off := 79) (tgt := 99) dX8_at_20 c20_5 (by decide +kernel) (by decide +kernel) (by decide +kernel) (by decide) ?_
                refine Eg.pick [1, 2, 3, 0] rfl ?_
                exact pX8_at_99 _ _ _ _ _ h
              · refine ite_cases h (fun c20_6 h => ?_) (fun c20_6 h => ?_)
                · refine E_tabIn (off := 79) (tgt := 99) dX8_at_20 c20_6 (by decide +kernel) (by decide +kernel) (by decide +kernel) (by decide) ?_
                  refine Eg.pick [1, 2, 3, 0] rfl ?_
                  exact pX8_at_99 _ _ _ _ _ h
                · refine E_tabD (tgt := 120) [0, 1, 2, 3, 4, 5, 6] dX8_at_20 (by intro k hk; simp only [List.mem_cons, List.not_mem_nil, or_false] at hk; rcases hk with rfl | rfl | rfl | rfl | rfl | rfl | rfl <;> first | exact ne_lit (by decide +kernel) c20_0 | exact ne_lit (by decide +kernel) c20_1 | exact ne_lit (by decide +kernel) c20_2 | exact ne_lit (by decide +kernel) c20_3 | exact ne_lit (by decide +kernel) c20_4 | exact ne_lit (by decide +kernel) c20_5 | exact ne_lit (by decide +kernel) c20_6) (by decide +kernel) (by decide) ?_
                  refine E_sipush (v := (-1000)) dX8_at_120 (by decide) ?_
                  exact E_iret h dX8_at_123 rfl
  · refine E_sipush (v := (-1000)) dX8_at_7 (by decide) ?_
    exact E_iret h dX8_at_10 rfl
def fX8_of (u : Mm) (a0 : Nat) (x1 : Int32) (x2 : Int32) : Option (Int32 × Mm) := oB (fX8_isSide u x1) (fun v1 u2 => (if (v1 : Int32) = 0 then some ((-1), u2) else oK u2 a0 8 19 (oNn (mR u2 a0 0) (fun e3 => oK u2 e3 0 16 (oNn (mR u2 e3 0) (fun e4 => (if (x2 : Int32) = 0 then oR u2 e4 1 (oB (fX1_supplyOf u2 e4 x1) (fun v5 u6 => some (v5, u6))) else (if (x2 : Int32) = 1 then oR u2 e4 1 (oB (fX1_temperOf u2 e4 x1) (fun v7 u8 => some (v7, u8))) else (if (x2 : Int32) = 2 then oK u2 a0 8 19 (oNn (mR u2 a0 1) (fun e9 => oR u2 e9 7 (oB (fX7_feedOf u2 e9 e4 x1) (fun v10 u11 => some (v10, u11))))) else (if (x2 : Int32) = 3 then oR u2 e4 1 (oB (fX1_menOf u2 e4 x1) (fun v12 u13 => some (v12, u13))) else some ((-1), u2)))))))))))
set_option maxRecDepth 100000 in
set_option maxHeartbeats 4000000 in
theorem tX8_of {u : Mm} {a0 : Nat} {x1 : Int32} {x2 : Int32} {r : Int32} {u' : Mm} (h : fX8_of u a0 x1 x2 = some (r, u')) : Ev 4 MX8_of 0 0 [.ref a0, .int x1, .int x2] u (some (.int r), u') := by
  refine Ev.of (by decide +kernel) (Nat.le_of_ble_eq_true rfl) (show Eg MX8_of 4 0 0 (some (.int r), u') 0 [(0, .ref a0), (1, .int x1), (2, .int x2)] [] u from ?_)
  unfold fX8_of at h
  refine E_iload_n dX8_of_0 rfl rfl ?_
  refine F_Si h (fun a m e => tX8_isSide e) dX8_of_1 hm_X8_isSide hs_X8_isSide ln_X8_85 rfl rfl (Nat.le_of_ble_eq_true rfl) (Nat.le_of_ble_eq_true rfl) (kc' := 0) (ks' := 0) rfl rfl (fun v1 u2 h => ?_)
  refine E_if_ne (tgt := 9) h dX8_of_4 (by decide) (fun h => ?_) (fun h => ?_)
  · refine E_aload_n dX8_of_9 rfl rfl ?_
    refine E_getA h dX8_of_10 cf8 lk_X8_10 (by decide) (fun _ _ _ => rfl) (fun e3 h => ?_)
    refine E_getA h dX8_of_13 cf0 lk_X8_100 (by decide) (fun _ _ _ => rfl) (fun e4 h => ?_)
    refine E_astore_n (l' := [(3, .ref e4), (0, .ref a0), (1, .int x1), (2, .int x2)]) dX8_of_16 rfl (Nat.le_of_ble_eq_true rfl) rfl ?_
    refine E_iload_n dX8_of_17 rfl rfl ?_
    refine ite_cases h (fun c18_0 h => ?_) (fun c18_0 h => ?_)
    · refine E_tabIn (off := 30) (tgt := 48) dX8_of_18 c18_0 (by decide +kernel) (by decide +kernel) (by decide +kernel) (by decide) ?_
      refine E_aload_n dX8_of_48 rfl rfl ?_
      refine E_iload_n dX8_of_49 rfl rfl ?_
      refine F_Vi h (fun a m e => tX1_supplyOf e) dX8_of_50 hm_X1_supplyOf hv_X1_supplyOf ln_X8_132 rfl rfl (Nat.le_of_ble_eq_true rfl) (Nat.le_of_ble_eq_true rfl) (kc' := 0) (ks' := 0) rfl rfl (fun v5 u6 h => ?_)
      exact E_iret h dX8_of_53 rfl
    · refine ite_cases h (fun c18_1 h => ?_) (fun c18_1 h => ?_)
      · refine E_tabIn (off := 36) (tgt := 54) dX8_of_18 c18_1 (by decide +kernel) (by decide +kernel) (by decide +kernel) (by decide) ?_
        refine E_aload_n dX8_of_54 rfl rfl ?_
        refine E_iload_n dX8_of_55 rfl rfl ?_
        refine F_Vi h (fun a m e => tX1_temperOf e) dX8_of_56 hm_X1_temperOf hv_X1_temperOf ln_X8_135 rfl rfl (Nat.le_of_ble_eq_true rfl) (Nat.le_of_ble_eq_true rfl) (kc' := 0) (ks' := 0) rfl rfl (fun v7 u8 h => ?_)
        exact E_iret h dX8_of_59 rfl
      · refine ite_cases h (fun c18_2 h => ?_) (fun c18_2 h => ?_)
        · refine E_tabIn (off := 42) (tgt := 60) dX8_of_18 c18_2 (by decide +kernel) (by decide +kernel) (by decide +kernel) (by decide) ?_
          refine E_aload_n dX8_of_60 rfl rfl ?_
          refine E_getA h dX8_of_61 cf8 lk_X8_21 (by decide) (fun _ _ _ => rfl) (fun e9 h => ?_)
          refine E_aload_n dX8_of_64 rfl rfl ?_
          refine E_iload_n dX8_of_65 rfl rfl ?_
          refine F_Vi h (fun a m e => tX7_feedOf e) dX8_of_66 hm_X7_feedOf hv_X7_feedOf ln_X8_138 rfl rfl (Nat.le_of_ble_eq_true rfl) (Nat.le_of_ble_eq_true rfl) (kc' := 0) (ks' := 0) rfl rfl (fun v10 u11 h => ?_)
          exact E_iret h dX8_of_69 rfl
        · refine ite_cases h (fun c18_3 h => ?_) (fun c18_3 h => ?_)
          · refine E_tabIn (off := 52) (tgt := 70) dX8_of_18 c18_3 (by decide +kernel) (by decide +kernel) (by decide +kernel) (by decide) ?_
            refine E_aload_n dX8_of_70 rfl rfl ?_
            refine E_iload_n dX8_of_71 rfl rfl ?_
            refine F_Vi h (fun a m e => tX1_menOf e) dX8_of_72 hm_X1_menOf hv_X1_menOf ln_X8_142 rfl rfl (Nat.le_of_ble_eq_true rfl) (Nat.le_of_ble_eq_true rfl) (kc' := 0) (ks' := 0) rfl rfl (fun v12 u13 h => ?_)
            exact E_iret h dX8_of_75 rfl
          · refine E_tabD (tgt := 76) [0, 1, 2, 3] dX8_of_18 (by intro k hk; simp only [List.mem_cons, List.not_mem_nil, or_false] at hk; rcases hk with rfl | rfl | rfl | rfl <;> first | exact ne_lit (by decide +kernel) c18_0 | exact ne_lit (by decide +kernel) c18_1 | exact ne_lit (by decide +kernel) c18_2 | exact ne_lit (by decide +kernel) c18_3) (by decide +kernel) (by decide) ?_
            refine E_iconst (v := (-1)) dX8_of_76 (by decide) ?_
            exact E_iret h dX8_of_77 rfl
  · refine E_iconst (v := (-1)) dX8_of_7 (by decide) ?_
    exact E_iret h dX8_of_8 rfl
def bX8_sign_67 (u : Mm) (a0 : Nat) : Option (Int32 × Mm) := oR u a0 8 (oB (fX8_refuse u a0 ((-1))) (fun v5 u6 => some (v5, u6)))
set_option maxRecDepth 100000 in
set_option maxHeartbeats 4000000 in
theorem pX8_sign_67 {r : Int32} {u' : Mm} (u : Mm) (a0 : Nat) (h : bX8_sign_67 u a0 = some (r, u')) : Eg MX8_sign 2 0 0 (some (.int r), u') 67 [(0, .ref a0)] [] u := by
  unfold bX8_sign_67 at h
  refine E_aload_n dX8_sign_67 rfl rfl ?_
  refine E_iconst (v := (-1)) dX8_sign_68 (by decide) ?_
  refine F_Vi h (fun a m e => tX8_refuse e) dX8_sign_69 hm_X8_refuse hv_X8_refuse ln_X8_96 rfl rfl (Nat.le_of_ble_eq_true rfl) (Nat.le_of_ble_eq_true rfl) (kc' := 0) (ks' := 0) rfl rfl (fun v5 u6 h => ?_)
  exact E_iret h dX8_sign_72 rfl
def bX8_sign_95 (u : Mm) (a0 : Nat) (x1 : Int32) (x2 : Int32) (x4 : Int32) (s0 : Nat) : Option (Int32 × Mm) := oB (fX8_pair u x1 x2) (fun v13 u14 => oA u14 s0 10 v13 (oU (wI u14 s0 (upd (mI u14 s0) (Int32.toNatClampNeg v13) x4)) (fun u15 => oK u15 a0 8 19 (oNn (mR u15 a0 5) (fun e16 => oR u15 e16 3 (oB (fX3_clear u15 e16) (fun _ u17 => oR u17 a0 8 (oB (fX8_accept u17 a0 0) (fun v18 u19 => some (v18, u19))))))))))
set_option maxRecDepth 100000 in
set_option maxHeartbeats 4000000 in
theorem pX8_sign_95 {r : Int32} {u' : Mm} (u : Mm) (a0 : Nat) (x1 : Int32) (x2 : Int32) (x4 : Int32) (s0 : Nat) (h : bX8_sign_95 u a0 x1 x2 x4 s0 = some (r, u')) : Eg MX8_sign 2 0 0 (some (.int r), u') 95 [(0, .ref a0), (1, .int x1), (2, .int x2), (4, .int x4)] [.ref s0] u := by
  unfold bX8_sign_95 at h
  refine E_astore (l' := [(7, .ref s0), (0, .ref a0), (1, .int x1), (2, .int x2), (4, .int x4)]) dX8_sign_95 (Nat.le_of_ble_eq_true rfl) rfl ?_
  refine E_aload dX8_sign_97 rfl ?_
  refine E_iload_n dX8_sign_99 rfl rfl ?_
  refine E_iload_n dX8_sign_100 rfl rfl ?_
  refine F_Si h (fun a m e => tX8_pair e) dX8_sign_101 hm_X8_pair hs_X8_pair ln_X8_154 rfl rfl (Nat.le_of_ble_eq_true rfl) (Nat.le_of_ble_eq_true rfl) (kc' := 0) (ks' := 0) rfl rfl (fun v13 u14 h => ?_)
  refine E_iload dX8_sign_104 rfl ?_
  refine E_iast h dX8_sign_106 (fun h => ?_)
  refine E_oU h (fun u15 h => ?_)
  refine E_aload_n dX8_sign_107 rfl rfl ?_
  refine E_getA h dX8_sign_108 cf8 lk_X8_48 (by decide) (fun _ _ _ => rfl) (fun e16 h => ?_)
  refine F_Vv h (fun m e => tX3_clear e) dX8_sign_111 hm_X3_clear hv_X3_clear ln_X8_111 rfl rfl (Nat.le_of_ble_eq_true rfl) (Nat.le_of_ble_eq_true rfl) (kc' := 0) (ks' := 0) rfl rfl (fun u17 h => ?_)
  refine E_aload_n dX8_sign_114 rfl rfl ?_
  refine E_iconst (v := 0) dX8_sign_115 (by decide) ?_
  refine F_Vi h (fun a m e => tX8_accept e) dX8_sign_116 hm_X8_accept hv_X8_accept ln_X8_114 rfl rfl (Nat.le_of_ble_eq_true rfl) (Nat.le_of_ble_eq_true rfl) (kc' := 0) (ks' := 0) rfl rfl (fun v18 u19 h => ?_)
  exact E_iret h dX8_sign_119 rfl
def bX8_sign_37 (u : Mm) (a0 : Nat) (x1 : Int32) (x2 : Int32) (x3 : Int32) (x4 : Int32) (x5 : Int32) (s0 : Int32) : Option (Int32 × Mm) := oB (fX8_isSign u x1) (fun v3 u4 => (if (v3 : Int32) = 0 then bX8_sign_67 u4 a0 else oB (fX8_isSide u4 x2) (fun v7 u8 => (if (v7 : Int32) = 0 then bX8_sign_67 u8 a0 else oB (fX8_within u8 x3 0 1) (fun v9 u10 => (if (v9 : Int32) = 0 then bX8_sign_67 u10 a0 else (if (s0 : Int32) = 0 then bX8_sign_67 u10 a0 else (if (x5 : Int32) = 0 then oK u10 a0 8 19 (oNn (mR u10 a0 0) (fun e11 => oK u10 e11 0 16 (oNn (mR u10 e11 1) (fun e12 => bX8_sign_95 u10 a0 x1 x2 x4 e12)))) else oK u10 a0 8 19 (oNn (mR u10 a0 0) (fun e20 => oK u10 e20 0 16 (oNn (mR u10 e20 2) (fun e21 => bX8_sign_95 u10 a0 x1 x2 x4 e21))))))))))))
set_option maxRecDepth 100000 in
set_option maxHeartbeats 4000000 in
theorem pX8_sign_37 {r : Int32} {u' : Mm} (u : Mm) (a0 : Nat) (x1 : Int32) (x2 : Int32) (x3 : Int32) (x4 : Int32) (x5 : Int32) (s0 : Int32) (h : bX8_sign_37 u a0 x1 x2 x3 x4 x5 s0 = some (r, u')) : Eg MX8_sign 2 0 0 (some (.int r), u') 37 [(0, .ref a0), (1, .int x1), (2, .int x2), (3, .int x3), (4, .int x4), (5, .int x5)] [.int s0] u := by
  unfold bX8_sign_37 at h
  refine E_istore (l' := [(6, .int s0), (0, .ref a0), (1, .int x1), (2, .int x2), (3, .int x3), (4, .int x4), (5, .int x5)]) dX8_sign_37 (Nat.le_of_ble_eq_true rfl) rfl ?_
  refine E_iload_n dX8_sign_39 rfl rfl ?_
  refine F_Si h (fun a m e => tX8_isSign e) dX8_sign_40 hm_X8_isSign hs_X8_isSign ln_X8_145 rfl rfl (Nat.le_of_ble_eq_true rfl) (Nat.le_of_ble_eq_true rfl) (kc' := 0) (ks' := 0) rfl rfl (fun v3 u4 h => ?_)
  refine E_if_eq (tgt := 67) h dX8_sign_43 (by decide) (fun h => ?_) (fun h => ?_)
  · refine Eg.pick [1] rfl ?_
    exact pX8_sign_67 _ _ h
  · refine E_iload_n dX8_sign_46 rfl rfl ?_
    refine F_Si h (fun a m e => tX8_isSide e) dX8_sign_47 hm_X8_isSide hs_X8_isSide ln_X8_85 rfl rfl (Nat.le_of_ble_eq_true rfl) (Nat.le_of_ble_eq_true rfl) (kc' := 0) (ks' := 0) rfl rfl (fun v7 u8 h => ?_)
    refine E_if_eq (tgt := 67) h dX8_sign_50 (by decide) (fun h => ?_) (fun h => ?_)
    · refine Eg.pick [1] rfl ?_
      exact pX8_sign_67 _ _ h
    · refine E_iload_n dX8_sign_53 rfl rfl ?_
      refine E_iconst (v := 0) dX8_sign_54 (by decide) ?_
      refine E_iconst (v := 1) dX8_sign_55 (by decide) ?_
      refine F_Si h (fun a m e => tX8_within e) dX8_sign_56 hm_X8_within hs_X8_within ln_X8_92 rfl rfl (Nat.le_of_ble_eq_true rfl) (Nat.le_of_ble_eq_true rfl) (kc' := 0) (ks' := 0) rfl rfl (fun v9 u10 h => ?_)
      refine E_if_eq (tgt := 67) h dX8_sign_59 (by decide) (fun h => ?_) (fun h => ?_)
      · refine Eg.pick [1] rfl ?_
        exact pX8_sign_67 _ _ h
      · refine E_iload dX8_sign_62 rfl ?_
        refine E_if_ne (tgt := 73) h dX8_sign_64 (by decide) (fun h => ?_) (fun h => ?_)
        · refine E_iload dX8_sign_73 rfl ?_
          refine E_if_eq (tgt := 88) h dX8_sign_75 (by decide) (fun h => ?_) (fun h => ?_)
          · refine E_aload_n dX8_sign_88 rfl rfl ?_
            refine E_getA h dX8_sign_89 cf8 lk_X8_10 (by decide) (fun _ _ _ => rfl) (fun e11 h => ?_)
            refine E_getA h dX8_sign_92 cf0 lk_X8_151 (by decide) (fun _ _ _ => rfl) (fun e12 h => ?_)
            refine Eg.pick [1, 2, 3, 5] rfl ?_
            exact pX8_sign_95 _ _ _ _ _ _ h
          · refine E_aload_n dX8_sign_78 rfl rfl ?_
            refine E_getA h dX8_sign_79 cf8 lk_X8_10 (by decide) (fun _ _ _ => rfl) (fun e20 h => ?_)
            refine E_getA h dX8_sign_82 cf0 lk_X8_148 (by decide) (fun _ _ _ => rfl) (fun e21 h => ?_)
            refine E_goto (tgt := 95) dX8_sign_85 (by decide) ?_
            refine Eg.pick [1, 2, 3, 5] rfl ?_
            exact pX8_sign_95 _ _ _ _ _ _ h
        · refine Eg.pick [1] rfl ?_
          exact pX8_sign_67 _ _ h
def bX8_sign_10 (u : Mm) (a0 : Nat) (x1 : Int32) (x2 : Int32) (x3 : Int32) (x4 : Int32) (s0 : Int32) : Option (Int32 × Mm) := (if (s0 : Int32) = 0 then oB (fX8_within u x4 ((-20)) 20) (fun v1 u2 => bX8_sign_37 u2 a0 x1 x2 x3 x4 s0 v1) else oB (fX8_within u x4 ((-1)) 7) (fun v22 u23 => bX8_sign_37 u23 a0 x1 x2 x3 x4 s0 v22))
set_option maxRecDepth 100000 in
set_option maxHeartbeats 4000000 in
theorem pX8_sign_10 {r : Int32} {u' : Mm} (u : Mm) (a0 : Nat) (x1 : Int32) (x2 : Int32) (x3 : Int32) (x4 : Int32) (s0 : Int32) (h : bX8_sign_10 u a0 x1 x2 x3 x4 s0 = some (r, u')) : Eg MX8_sign 2 0 0 (some (.int r), u') 10 [(0, .ref a0), (1, .int x1), (2, .int x2), (3, .int x3), (4, .int x4)] [.int s0] u := by
  unfold bX8_sign_10 at h
  refine E_istore (l' := [(5, .int s0), (0, .ref a0), (1, .int x1), (2, .int x2), (3, .int x3), (4, .int x4)]) dX8_sign_10 (Nat.le_of_ble_eq_true rfl) rfl ?_
  refine E_iload dX8_sign_12 rfl ?_
  refine E_if_eq (tgt := 28) h dX8_sign_14 (by decide) (fun h => ?_) (fun h => ?_)
  · refine E_iload dX8_sign_28 rfl ?_
    refine E_bipush (v := (-20)) dX8_sign_30 (by decide) ?_
    refine E_bipush (v := 20) dX8_sign_32 (by decide) ?_
    refine F_Si h (fun a m e => tX8_within e) dX8_sign_34 hm_X8_within hs_X8_within ln_X8_92 rfl rfl (Nat.le_of_ble_eq_true rfl) (Nat.le_of_ble_eq_true rfl) (kc' := 0) (ks' := 0) rfl rfl (fun v1 u2 h => ?_)
    refine Eg.pick [1, 2, 3, 4, 5, 0] rfl ?_
    exact pX8_sign_37 _ _ _ _ _ _ _ _ h
  · refine E_iload dX8_sign_17 rfl ?_
    refine E_iconst (v := (-1)) dX8_sign_19 (by decide) ?_
    refine E_bipush (v := 7) dX8_sign_20 (by decide) ?_
    refine F_Si h (fun a m e => tX8_within e) dX8_sign_22 hm_X8_within hs_X8_within ln_X8_92 rfl rfl (Nat.le_of_ble_eq_true rfl) (Nat.le_of_ble_eq_true rfl) (kc' := 0) (ks' := 0) rfl rfl (fun v22 u23 h => ?_)
    refine E_goto (tgt := 37) dX8_sign_25 (by decide) ?_
    refine Eg.pick [1, 2, 3, 4, 5, 0] rfl ?_
    exact pX8_sign_37 _ _ _ _ _ _ _ _ h
def fX8_sign (u : Mm) (a0 : Nat) (x1 : Int32) (x2 : Int32) (x3 : Int32) (x4 : Int32) : Option (Int32 × Mm) := (if (x3 : Int32) = 1 then bX8_sign_10 u a0 x1 x2 x3 x4 1 else bX8_sign_10 u a0 x1 x2 x3 x4 0)
set_option maxRecDepth 100000 in
set_option maxHeartbeats 4000000 in
theorem tX8_sign {u : Mm} {a0 : Nat} {x1 : Int32} {x2 : Int32} {x3 : Int32} {x4 : Int32} {r : Int32} {u' : Mm} (h : fX8_sign u a0 x1 x2 x3 x4 = some (r, u')) : Ev 2 MX8_sign 0 0 [.ref a0, .int x1, .int x2, .int x3, .int x4] u (some (.int r), u') := by
  refine Ev.of (by decide +kernel) (Nat.le_of_ble_eq_true rfl) (show Eg MX8_sign 2 0 0 (some (.int r), u') 0 [(0, .ref a0), (1, .int x1), (2, .int x2), (3, .int x3), (4, .int x4)] [] u from ?_)
  unfold fX8_sign at h
  refine E_iload_n dX8_sign_0 rfl rfl ?_
  refine E_iconst (v := 1) dX8_sign_1 (by decide) ?_
  refine E_ic_ne (tgt := 9) h dX8_sign_2 (by decide) (fun h => ?_) (fun h => ?_)
  · refine E_iconst (v := 0) dX8_sign_9 (by decide) ?_
    refine Eg.pick [0, 1, 2, 3, 4] rfl ?_
    exact pX8_sign_10 _ _ _ _ _ _ _ h
  · refine E_iconst (v := 1) dX8_sign_5 (by decide) ?_
    refine E_goto (tgt := 10) dX8_sign_6 (by decide) ?_
    refine Eg.pick [0, 1, 2, 3, 4] rfl ?_
    exact pX8_sign_10 _ _ _ _ _ _ _ h
