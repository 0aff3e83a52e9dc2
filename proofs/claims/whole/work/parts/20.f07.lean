/-! ===== methods as functions, with their contracts (printed by program) ===== -/
def bX4_readSum_106 (rT rS : Mm → Nat → Int32 → Int32 → Option (Int32 × Mm)) (rP rA : Mm → Nat → Int32 → Option (Int32 × Mm)) (k26 : Mm → Nat → Int32 → Int32 → Int32 → Option (Int32 × Mm)) (u : Mm) (a0 : Nat) (x1 : Int32) (x2 : Int32) (x3 : Int32) (x4 : Int32) (s0 : Int32) : Option (Int32 × Mm) := (if (s0 : Int32) = 0 then oZ 1 (some (1, u)) else oR u a0 4 (oB (rS u a0 (x1 + 1) x2) (fun v8 u9 => (if (v8 : Int32) = 0 then oZ 0 (some (0, u9)) else oK u9 a0 4 8 (oNn (mR u9 a0 7) (fun e10 => oR u9 e10 6 (oB (fX6_put u9 e10 x4 0) (fun _ u11 => k26 u11 a0 x1 x2 (x3 + 1)))))))))
set_option maxRecDepth 100000 in
set_option maxHeartbeats 4000000 in
theorem pX4_readSum_106 {dd : Nat} (hdd : 0 ≤ dd) {rT : Mm → Nat → Int32 → Int32 → Option (Int32 × Mm)} (hT : ∀ (u : Mm) (a0 : Nat) (x1 x2 : Int32) (r : Int32) (u' : Mm), rT u a0 x1 x2 = some (r, u') → Ev dd MX4_readTest 0 0 [.ref a0, .int x1, .int x2] u (some (.int r), u')) {rS : Mm → Nat → Int32 → Int32 → Option (Int32 × Mm)} (hS : ∀ (u : Mm) (a0 : Nat) (x1 x2 : Int32) (r : Int32) (u' : Mm), rS u a0 x1 x2 = some (r, u') → Ev dd MX4_readSum 0 0 [.ref a0, .int x1, .int x2] u (some (.int r), u')) {rP : Mm → Nat → Int32 → Option (Int32 × Mm)} (hP : ∀ (u : Mm) (a0 : Nat) (x1 : Int32) (r : Int32) (u' : Mm), rP u a0 x1 = some (r, u') → Ev dd MX4_readPlain 0 0 [.ref a0, .int x1] u (some (.int r), u')) {rA : Mm → Nat → Int32 → Option (Int32 × Mm)} (hA : ∀ (u : Mm) (a0 : Nat) (x1 : Int32) (r : Int32) (u' : Mm), rA u a0 x1 = some (r, u') → Ev dd MX4_readPart 0 0 [.ref a0, .int x1] u (some (.int r), u')) {r : Int32} {u' : Mm} {k26 : Mm → Nat → Int32 → Int32 → Int32 → Option (Int32 × Mm)} (hk26 : ∀ (u : Mm) (a0 : Nat) (x1 : Int32) (x2 : Int32) (x3 : Int32), k26 u a0 x1 x2 x3 = some (r, u') → Eg MX4_readSum (dd + 1) 0 0 (some (.int r), u') 26 [(0, .ref a0), (1, .int x1), (2, .int x2), (3, .int x3)] [] u) (u : Mm) (a0 : Nat) (x1 : Int32) (x2 : Int32) (x3 : Int32) (x4 : Int32) (s0 : Int32) (h : bX4_readSum_106 rT rS rP rA k26 u a0 x1 x2 x3 x4 s0 = some (r, u')) : Eg MX4_readSum (dd + 1) 0 0 (some (.int r), u') 106 [(0, .ref a0), (1, .int x1), (2, .int x2), (3, .int x3), (4, .int x4)] [.int s0] u := by
  unfold bX4_readSum_106 at h
  refine E_istore (l' := [(5, .int s0), (0, .ref a0), (1, .int x1), (2, .int x2), (3, .int x3), (4, .int x4)]) dX4_readSum_106 (Nat.le_of_ble_eq_true rfl) rfl ?_
  refine E_iload dX4_readSum_108 rfl ?_
  refine E_if_ne (tgt := 115) h dX4_readSum_110 (by decide) (fun h => ?_) (fun h => ?_)
  · refine E_aload_n dX4_readSum_115 rfl rfl ?_
    refine E_iload_n dX4_readSum_116 rfl rfl ?_
    refine E_iconst (v := 1) dX4_readSum_117 (by decide) ?_
    refine E_iadd dX4_readSum_118 ?_
    refine E_iload_n dX4_readSum_119 rfl rfl ?_
    refine F_Vi h (fun a m e => hS _ _ _ _ a m e) dX4_readSum_120 hm_X4_readSum hv_X4_readSum ln_X4_120 rfl rfl (Nat.le_of_ble_eq_true rfl) (Nat.le_refl _) (kc' := 0) (ks' := 0) rfl rfl (fun v8 u9 h => ?_)
    refine E_if_ne (tgt := 128) h dX4_readSum_123 (by decide) (fun h => ?_) (fun h => ?_)
    · refine E_aload_n dX4_readSum_128 rfl rfl ?_
      refine E_getA h dX4_readSum_129 cf4 lk_X4_24 (by decide) (fun _ _ _ => rfl) (fun e10 h => ?_)
      refine E_iload dX4_readSum_132 rfl ?_
      refine E_iconst (v := 0) dX4_readSum_134 (by decide) ?_
      refine F_Vv h (fun m e => tX6_put e) dX4_readSum_135 hm_X6_put hv_X6_put ln_X4_126 rfl rfl (Nat.le_of_ble_eq_true rfl) (by omega) (kc' := 0) (ks' := 0) rfl rfl (fun u11 h => ?_)
      refine E_iinc (j := 4) (v := x3 + 1) (l' := [(3, .int (x3 + 1)), (5, .int s0), (0, .ref a0), (1, .int x1), (2, .int x2), (4, .int x4)]) dX4_readSum_138 rfl (addI (by decide)) (Nat.le_of_ble_eq_true rfl) rfl ?_
      refine E_goto (tgt := 26) dX4_readSum_141 (by decide) ?_
      refine Eg.pick [2, 3, 4, 0] rfl ?_
      exact hk26 _ _ _ _ _ h
    · refine E_iconst (v := 0) dX4_readSum_126 (by decide) ?_
      exact E_zret h dX4_readSum_127 rfl
  · refine E_iconst (v := 1) dX4_readSum_113 (by decide) ?_
    exact E_zret h dX4_readSum_114 rfl
def bX4_readSum_101 (rT rS : Mm → Nat → Int32 → Int32 → Option (Int32 × Mm)) (rP rA : Mm → Nat → Int32 → Option (Int32 × Mm)) (k26 : Mm → Nat → Int32 → Int32 → Int32 → Option (Int32 × Mm)) (u : Mm) (a0 : Nat) (x1 : Int32) (x2 : Int32) (x3 : Int32) (x4 : Int32) : Option (Int32 × Mm) := bX4_readSum_106 rT rS rP rA k26 u a0 x1 x2 x3 x4 1
set_option maxRecDepth 100000 in
set_option maxHeartbeats 4000000 in
theorem pX4_readSum_101 {dd : Nat} (hdd : 0 ≤ dd) {rT : Mm → Nat → Int32 → Int32 → Option (Int32 × Mm)} (hT : ∀ (u : Mm) (a0 : Nat) (x1 x2 : Int32) (r : Int32) (u' : Mm), rT u a0 x1 x2 = some (r, u') → Ev dd MX4_readTest 0 0 [.ref a0, .int x1, .int x2] u (some (.int r), u')) {rS : Mm → Nat → Int32 → Int32 → Option (Int32 × Mm)} (hS : ∀ (u : Mm) (a0 : Nat) (x1 x2 : Int32) (r : Int32) (u' : Mm), rS u a0 x1 x2 = some (r, u') → Ev dd MX4_readSum 0 0 [.ref a0, .int x1, .int x2] u (some (.int r), u')) {rP : Mm → Nat → Int32 → Option (Int32 × Mm)} (hP : ∀ (u : Mm) (a0 : Nat) (x1 : Int32) (r : Int32) (u' : Mm), rP u a0 x1 = some (r, u') → Ev dd MX4_readPlain 0 0 [.ref a0, .int x1] u (some (.int r), u')) {rA : Mm → Nat → Int32 → Option (Int32 × Mm)} (hA : ∀ (u : Mm) (a0 : Nat) (x1 : Int32) (r : Int32) (u' : Mm), rA u a0 x1 = some (r, u') → Ev dd MX4_readPart 0 0 [.ref a0, .int x1] u (some (.int r), u')) {r : Int32} {u' : Mm} {k26 : Mm → Nat → Int32 → Int32 → Int32 → Option (Int32 × Mm)} (hk26 : ∀ (u : Mm) (a0 : Nat) (x1 : Int32) (x2 : Int32) (x3 : Int32), k26 u a0 x1 x2 x3 = some (r, u') → Eg MX4_readSum (dd + 1) 0 0 (some (.int r), u') 26 [(0, .ref a0), (1, .int x1), (2, .int x2), (3, .int x3)] [] u) (u : Mm) (a0 : Nat) (x1 : Int32) (x2 : Int32) (x3 : Int32) (x4 : Int32) (h : bX4_readSum_101 rT rS rP rA k26 u a0 x1 x2 x3 x4 = some (r, u')) : Eg MX4_readSum (dd + 1) 0 0 (some (.int r), u') 101 [(0, .ref a0), (1, .int x1), (2, .int x2), (3, .int x3), (4, .int x4)] [] u := by
  unfold bX4_readSum_101 at h
  refine E_iconst (v := 1) dX4_readSum_101 (by decide) ?_
  refine E_goto (tgt := 106) dX4_readSum_102 (by decide) ?_
  refine Eg.pick [0, 1, 2, 3, 4] rfl ?_
  exact pX4_readSum_106 hdd hT hS hP hA hk26 _ _ _ _ _ _ _ h
def bX4_readSum_66 (rT rS : Mm → Nat → Int32 → Int32 → Option (Int32 × Mm)) (rP rA : Mm → Nat → Int32 → Option (Int32 × Mm)) (k26 : Mm → Nat → Int32 → Int32 → Int32 → Option (Int32 × Mm)) (u : Mm) (a0 : Nat) (x1 : Int32) (x2 : Int32) (x3 : Int32) (x4 : Int32) : Option (Int32 × Mm) := bX4_readSum_106 rT rS rP rA k26 u a0 x1 x2 x3 x4 1
set_option maxRecDepth 100000 in
set_option maxHeartbeats 4000000 in
theorem pX4_readSum_66 {dd : Nat} (hdd : 0 ≤ dd) {rT : Mm → Nat → Int32 → Int32 → Option (Int32 × Mm)} (hT : ∀ (u : Mm) (a0 : Nat) (x1 x2 : Int32) (r : Int32) (u' : Mm), rT u a0 x1 x2 = some (r, u') → Ev dd MX4_readTest 0 0 [.ref a0, .int x1, .int x2] u (some (.int r), u')) {rS : Mm → Nat → Int32 → Int32 → Option (Int32 × Mm)} (hS : ∀ (u : Mm) (a0 : Nat) (x1 x2 : Int32) (r : Int32) (u' : Mm), rS u a0 x1 x2 = some (r, u') → Ev dd MX4_readSum 0 0 [.ref a0, .int x1, .int x2] u (some (.int r), u')) {rP : Mm → Nat → Int32 → Option (Int32 × Mm)} (hP : ∀ (u : Mm) (a0 : Nat) (x1 : Int32) (r : Int32) (u' : Mm), rP u a0 x1 = some (r, u') → Ev dd MX4_readPlain 0 0 [.ref a0, .int x1] u (some (.int r), u')) {rA : Mm → Nat → Int32 → Option (Int32 × Mm)} (hA : ∀ (u : Mm) (a0 : Nat) (x1 : Int32) (r : Int32) (u' : Mm), rA u a0 x1 = some (r, u') → Ev dd MX4_readPart 0 0 [.ref a0, .int x1] u (some (.int r), u')) {r : Int32} {u' : Mm} {k26 : Mm → Nat → Int32 → Int32 → Int32 → Option (Int32 × Mm)} (hk26 : ∀ (u : Mm) (a0 : Nat) (x1 : Int32) (x2 : Int32) (x3 : Int32), k26 u a0 x1 x2 x3 = some (r, u') → Eg MX4_readSum (dd + 1) 0 0 (some (.int r), u') 26 [(0, .ref a0), (1, .int x1), (2, .int x2), (3, .int x3)] [] u) (u : Mm) (a0 : Nat) (x1 : Int32) (x2 : Int32) (x3 : Int32) (x4 : Int32) (h : bX4_readSum_66 rT rS rP rA k26 u a0 x1 x2 x3 x4 = some (r, u')) : Eg MX4_readSum (dd + 1) 0 0 (some (.int r), u') 66 [(0, .ref a0), (1, .int x1), (2, .int x2), (3, .int x3), (4, .int x4)] [] u := by
  unfold bX4_readSum_66 at h
  refine E_iconst (v := 1) dX4_readSum_66 (by decide) ?_
  refine E_goto (tgt := 106) dX4_readSum_67 (by decide) ?_
  refine Eg.pick [0, 1, 2, 3, 4] rfl ?_
  exact pX4_readSum_106 hdd hT hS hP hA hk26 _ _ _ _ _ _ _ h
def bX4_readSum_26 (rT rS : Mm → Nat → Int32 → Int32 → Option (Int32 × Mm)) (rP rA : Mm → Nat → Int32 → Option (Int32 × Mm)) (k26 : Mm → Nat → Int32 → Int32 → Int32 → Option (Int32 × Mm)) (u : Mm) (a0 : Nat) (x1 : Int32) (x2 : Int32) (x3 : Int32) : Option (Int32 × Mm) := (if (400 : Int32) ≤ x3 then oZ 1 (some (1, u)) else oK u a0 4 8 (oNn (mR u a0 0) (fun e3 => oK u a0 4 8 (oI (mI u a0 4) (fun v4 => oA u e3 10 v4 (oI (mI u e3 (Int32.toNatClampNeg v4)) (fun v5 => (if (x1 : Int32) = 0 then oR u a0 4 (oB (fX4_skip u a0 43) (fun v16 u17 => (if (v16 : Int32) = 0 then oR u17 a0 4 (oB (fX4_skip u17 a0 45) (fun v18 u19 => (if (v18 : Int32) = 0 then bX4_readSum_106 rT rS rP rA k26 u19 a0 x1 x2 x3 v5 0 else bX4_readSum_66 rT rS rP rA k26 u19 a0 x1 x2 x3 v5))) else bX4_readSum_66 rT rS rP rA k26 u17 a0 x1 x2 x3 v5))) else oR u a0 4 (oB (fX4_skip u a0 42) (fun v6 u7 => (if (v6 : Int32) = 0 then oR u7 a0 4 (oB (fX4_skip u7 a0 47) (fun v12 u13 => (if (v12 : Int32) = 0 then oR u13 a0 4 (oB (fX4_skip u13 a0 37) (fun v14 u15 => (if (v14 : Int32) = 0 then bX4_readSum_106 rT rS rP rA k26 u15 a0 x1 x2 x3 v5 0 else bX4_readSum_101 rT rS rP rA k26 u15 a0 x1 x2 x3 v5))) else bX4_readSum_101 rT rS rP rA k26 u13 a0 x1 x2 x3 v5))) else bX4_readSum_101 rT rS rP rA k26 u7 a0 x1 x2 x3 v5)))))))))))
set_option maxRecDepth 100000 in
set_option maxHeartbeats 4000000 in
theorem pX4_readSum_26 {dd : Nat} (hdd : 0 ≤ dd) {rT : Mm → Nat → Int32 → Int32 → Option (Int32 × Mm)} (hT : ∀ (u : Mm) (a0 : Nat) (x1 x2 : Int32) (r : Int32) (u' : Mm), rT u a0 x1 x2 = some (r, u') → Ev dd MX4_readTest 0 0 [.ref a0, .int x1, .int x2] u (some (.int r), u')) {rS : Mm → Nat → Int32 → Int32 → Option (Int32 × Mm)} (hS : ∀ (u : Mm) (a0 : Nat) (x1 x2 : Int32) (r : Int32) (u' : Mm), rS u a0 x1 x2 = some (r, u') → Ev dd MX4_readSum 0 0 [.ref a0, .int x1, .int x2] u (some (.int r), u')) {rP : Mm → Nat → Int32 → Option (Int32 × Mm)} (hP : ∀ (u : Mm) (a0 : Nat) (x1 : Int32) (r : Int32) (u' : Mm), rP u a0 x1 = some (r, u') → Ev dd MX4_readPlain 0 0 [.ref a0, .int x1] u (some (.int r), u')) {rA : Mm → Nat → Int32 → Option (Int32 × Mm)} (hA : ∀ (u : Mm) (a0 : Nat) (x1 : Int32) (r : Int32) (u' : Mm), rA u a0 x1 = some (r, u') → Ev dd MX4_readPart 0 0 [.ref a0, .int x1] u (some (.int r), u')) {r : Int32} {u' : Mm} {k26 : Mm → Nat → Int32 → Int32 → Int32 → Option (Int32 × Mm)} (hk26 : ∀ (u : Mm) (a0 : Nat) (x1 : Int32) (x2 : Int32) (x3 : Int32), k26 u a0 x1 x2 x3 = some (r, u') → Eg MX4_readSum (dd + 1) 0 0 (some (.int r), u') 26 [(0, .ref a0), (1, .int x1), (2, .int x2), (3, .int x3)] [] u) (u : Mm) (a0 : Nat) (x1 : Int32) (x2 : Int32) (x3 : Int32) (h : bX4_readSum_26 rT rS rP rA k26 u a0 x1 x2 x3 = some (r, u')) : Eg MX4_readSum (dd + 1) 0 0 (some (.int r), u') 26 [(0, .ref a0), (1, .int x1), (2, .int x2), (3, .int x3)] [] u := by
  unfold bX4_readSum_26 at h
  refine E_iload_n dX4_readSum_26 rfl rfl ?_
  refine E_sipush (v := 400) dX4_readSum_27 (by decide) ?_
  refine E_ic_ge (tgt := 144) h dX4_readSum_30 (by decide) (fun h => ?_) (fun h => ?_)
  · refine E_iconst (v := 1) dX4_readSum_144 (by decide) ?_
    exact E_zret h dX4_readSum_145 rfl
  · refine E_aload_n dX4_readSum_33 rfl rfl ?_
    refine E_getA h dX4_readSum_34 cf4 lk_X4_9 (by decide) (fun _ _ _ => rfl) (fun e3 h => ?_)
    refine E_aload_n dX4_readSum_37 rfl rfl ?_
    refine E_getI h dX4_readSum_38 cf4 lk_X4_36 (by decide) (fun _ _ _ => rfl) (fun h => ?_)
    refine E_oI h (fun v4 h => ?_)
    refine E_iald h dX4_readSum_41 (fun h => ?_)
    refine E_oI h (fun v5 h => ?_)
    refine E_istore (l' := [(4, .int v5), (0, .ref a0), (1, .int x1), (2, .int x2), (3, .int x3)]) dX4_readSum_42 (Nat.le_of_ble_eq_true rfl) rfl ?_
    refine E_iload_n dX4_readSum_44 rfl rfl ?_
    refine E_if_ne (tgt := 74) h dX4_readSum_45 (by decide) (fun h => ?_) (fun h => ?_)
    · refine E_aload_n dX4_readSum_74 rfl rfl ?_
      refine E_bipush (v := 42) dX4_readSum_75 (by decide) ?_
      refine F_Vi h (fun a m e => tX4_skip e) dX4_readSum_77 hm_X4_skip hv_X4_skip ln_X4_53 rfl rfl (Nat.le_of_ble_eq_true rfl) (by omega) (kc' := 0) (ks' := 0) rfl rfl (fun v6 u7 h => ?_)
      refine E_if_ne (tgt := 101) h dX4_readSum_80 (by decide) (fun h => ?_) (fun h => ?_)
      · refine Eg.pick [1, 2, 3, 4, 0] rfl ?_
        exact pX4_readSum_101 hdd hT hS hP hA hk26 _ _ _ _ _ _ h
      · refine E_aload_n dX4_readSum_83 rfl rfl ?_
        refine E_bipush (v := 47) dX4_readSum_84 (by decide) ?_
        refine F_Vi h (fun a m e => tX4_skip e) dX4_readSum_86 hm_X4_skip hv_X4_skip ln_X4_53 rfl rfl (Nat.le_of_ble_eq_true rfl) (by omega) (kc' := 0) (ks' := 0) rfl rfl (fun v12 u13 h => ?_)
        refine E_if_ne (tgt := 101) h dX4_readSum_89 (by decide) (fun h => ?_) (fun h => ?_)
        · refine Eg.pick [1, 2, 3, 4, 0] rfl ?_
          exact pX4_readSum_101 hdd hT hS hP hA hk26 _ _ _ _ _ _ h
        · refine E_aload_n dX4_readSum_92 rfl rfl ?_
          refine E_bipush (v := 37) dX4_readSum_93 (by decide) ?_
          refine F_Vi h (fun a m e => tX4_skip e) dX4_readSum_95 hm_X4_skip hv_X4_skip ln_X4_53 rfl rfl (Nat.le_of_ble_eq_true rfl) (by omega) (kc' := 0) (ks' := 0) rfl rfl (fun v14 u15 h => ?_)
          refine E_if_eq (tgt := 105) h dX4_readSum_98 (by decide) (fun h => ?_) (fun h => ?_)
          · refine E_iconst (v := 0) dX4_readSum_105 (by decide) ?_
            refine Eg.pick [1, 2, 3, 4, 0] rfl ?_
            exact pX4_readSum_106 hdd hT hS hP hA hk26 _ _ _ _ _ _ _ h
          · refine Eg.pick [1, 2, 3, 4, 0] rfl ?_
            exact pX4_readSum_101 hdd hT hS hP hA hk26 _ _ _ _ _ _ h
    · refine E_aload_n dX4_readSum_48 rfl rfl ?_
      refine E_bipush (v := 43) dX4_readSum_49 (by decide) ?_
      refine F_Vi h (fun a m e => tX4_skip e) dX4_readSum_51 hm_X4_skip hv_X4_skip ln_X4_53 rfl rfl (Nat.le_of_ble_eq_true rfl) (by omega) (kc' := 0) (ks' := 0) rfl rfl (fun v16 u17 h => ?_)
      refine E_if_ne (tgt := 66) h dX4_readSum_54 (by decide) (fun h => ?_) (fun h => ?_)
      · refine Eg.pick [1, 2, 3, 4, 0] rfl ?_
        exact pX4_readSum_66 hdd hT hS hP hA hk26 _ _ _ _ _ _ h
      · refine E_aload_n dX4_readSum_57 rfl rfl ?_
        refine E_bipush (v := 45) dX4_readSum_58 (by decide) ?_
        refine F_Vi h (fun a m e => tX4_skip e) dX4_readSum_60 hm_X4_skip hv_X4_skip ln_X4_53 rfl rfl (Nat.le_of_ble_eq_true rfl) (by omega) (kc' := 0) (ks' := 0) rfl rfl (fun v18 u19 h => ?_)
        refine E_if_eq (tgt := 70) h dX4_readSum_63 (by decide) (fun h => ?_) (fun h => ?_)
        · refine E_iconst (v := 0) dX4_readSum_70 (by decide) ?_
          refine E_goto (tgt := 106) dX4_readSum_71 (by decide) ?_
          refine Eg.pick [1, 2, 3, 4, 0] rfl ?_
          exact pX4_readSum_106 hdd hT hS hP hA hk26 _ _ _ _ _ _ _ h
        · refine Eg.pick [1, 2, 3, 4, 0] rfl ?_
          exact pX4_readSum_66 hdd hT hS hP hA hk26 _ _ _ _ _ _ h
def rX4_readSum_26 (rT rS : Mm → Nat → Int32 → Int32 → Option (Int32 × Mm)) (rP rA : Mm → Nat → Int32 → Option (Int32 × Mm)) : Nat → Mm → Nat → Int32 → Int32 → Int32 → Option (Int32 × Mm)
  | 0, _, _, _, _, _ => none
  | n + 1, u, a0, x1, x2, x3 => bX4_readSum_26 rT rS rP rA (rX4_readSum_26 rT rS rP rA n) u a0 x1 x2 x3
theorem prX4_readSum_26 {dd : Nat} (hdd : 0 ≤ dd) {rT : Mm → Nat → Int32 → Int32 → Option (Int32 × Mm)} (hT : ∀ (u : Mm) (a0 : Nat) (x1 x2 : Int32) (r : Int32) (u' : Mm), rT u a0 x1 x2 = some (r, u') → Ev dd MX4_readTest 0 0 [.ref a0, .int x1, .int x2] u (some (.int r), u')) {rS : Mm → Nat → Int32 → Int32 → Option (Int32 × Mm)} (hS : ∀ (u : Mm) (a0 : Nat) (x1 x2 : Int32) (r : Int32) (u' : Mm), rS u a0 x1 x2 = some (r, u') → Ev dd MX4_readSum 0 0 [.ref a0, .int x1, .int x2] u (some (.int r), u')) {rP : Mm → Nat → Int32 → Option (Int32 × Mm)} (hP : ∀ (u : Mm) (a0 : Nat) (x1 : Int32) (r : Int32) (u' : Mm), rP u a0 x1 = some (r, u') → Ev dd MX4_readPlain 0 0 [.ref a0, .int x1] u (some (.int r), u')) {rA : Mm → Nat → Int32 → Option (Int32 × Mm)} (hA : ∀ (u : Mm) (a0 : Nat) (x1 : Int32) (r : Int32) (u' : Mm), rA u a0 x1 = some (r, u') → Ev dd MX4_readPart 0 0 [.ref a0, .int x1] u (some (.int r), u')) {r : Int32} {u' : Mm} : ∀ (n : Nat) (u : Mm) (a0 : Nat) (x1 : Int32) (x2 : Int32) (x3 : Int32), rX4_readSum_26 rT rS rP rA n u a0 x1 x2 x3 = some (r, u') → Eg MX4_readSum (dd + 1) 0 0 (some (.int r), u') 26 [(0, .ref a0), (1, .int x1), (2, .int x2), (3, .int x3)] [] u
  | 0, _, _, _, _, _, h => by cases h
  | n + 1, u, a0, x1, x2, x3, h => pX4_readSum_26 hdd hT hS hP hA (prX4_readSum_26 hdd hT hS hP hA n) u a0 x1 x2 x3 h
def fgX4_readSum (rT rS : Mm → Nat → Int32 → Int32 → Option (Int32 × Mm)) (rP rA : Mm → Nat → Int32 → Option (Int32 × Mm)) (u : Mm) (a0 : Nat) (x1 : Int32) (x2 : Int32) : Option (Int32 × Mm) := (if (x1 : Int32) < 2 then oR u a0 4 (oB (rS u a0 (x1 + 1) x2) (fun v1 u2 => (if (v1 : Int32) = 0 then oZ 0 (some (0, u2)) else rX4_readSum_26 rT rS rP rA hwF u2 a0 x1 x2 0))) else oR u a0 4 (oB (rA u a0 x2) (fun v20 u21 => oZ v20 (some (v20, u21)))))
set_option maxRecDepth 100000 in
set_option maxHeartbeats 4000000 in
theorem tgX4_readSum {dd : Nat} (hdd : 0 ≤ dd) {rT : Mm → Nat → Int32 → Int32 → Option (Int32 × Mm)} (hT : ∀ (u : Mm) (a0 : Nat) (x1 x2 : Int32) (r : Int32) (u' : Mm), rT u a0 x1 x2 = some (r, u') → Ev dd MX4_readTest 0 0 [.ref a0, .int x1, .int x2] u (some (.int r), u')) {rS : Mm → Nat → Int32 → Int32 → Option (Int32 × Mm)} (hS : ∀ (u : Mm) (a0 : Nat) (x1 x2 : Int32) (r : Int32) (u' : Mm), rS u a0 x1 x2 = some (r, u') → Ev dd MX4_readSum 0 0 [.ref a0, .int x1, .int x2] u (some (.int r), u')) {rP : Mm → Nat → Int32 → Option (Int32 × Mm)} (hP : ∀ (u : Mm) (a0 : Nat) (x1 : Int32) (r : Int32) (u' : Mm), rP u a0 x1 = some (r, u') → Ev dd MX4_readPlain 0 0 [.ref a0, .int x1] u (some (.int r), u')) {rA : Mm → Nat → Int32 → Option (Int32 × Mm)} (hA : ∀ (u : Mm) (a0 : Nat) (x1 : Int32) (r : Int32) (u' : Mm), rA u a0 x1 = some (r, u') → Ev dd MX4_readPart 0 0 [.ref a0, .int x1] u (some (.int r), u')) {u : Mm} {a0 : Nat} {x1 : Int32} {x2 : Int32} {r : Int32} {u' : Mm} (h : fgX4_readSum rT rS rP rA u a0 x1 x2 = some (r, u')) : Ev (dd + 1) MX4_readSum 0 0 [.ref a0, .int x1, .int x2] u (some (.int r), u') := by
  refine Ev.of (by decide +kernel) (Nat.le_of_ble_eq_true rfl) (show Eg MX4_readSum (dd + 1) 0 0 (some (.int r), u') 0 [(0, .ref a0), (1, .int x1), (2, .int x2)] [] u from ?_)
  unfold fgX4_readSum at h
  refine E_iload_n dX4_readSum_0 rfl rfl ?_
  refine E_iconst (v := 2) dX4_readSum_1 (by decide) ?_
  refine E_ic_lt (tgt := 11) h dX4_readSum_2 (by decide) (fun h => ?_) (fun h => ?_)
  · refine E_aload_n dX4_readSum_11 rfl rfl ?_
    refine E_iload_n dX4_readSum_12 rfl rfl ?_
    refine E_iconst (v := 1) dX4_readSum_13 (by decide) ?_
    refine E_iadd dX4_readSum_14 ?_
    refine E_iload_n dX4_readSum_15 rfl rfl ?_
    refine F_Vi h (fun a m e => hS _ _ _ _ a m e) dX4_readSum_16 hm_X4_readSum hv_X4_readSum ln_X4_120 rfl rfl (Nat.le_of_ble_eq_true rfl) (Nat.le_refl _) (kc' := 0) (ks' := 0) rfl rfl (fun v1 u2 h => ?_)
    refine E_if_ne (tgt := 24) h dX4_readSum_19 (by decide) (fun h => ?_) (fun h => ?_)
    · refine E_iconst (v := 0) dX4_readSum_24 (by decide) ?_
      refine E_istore_n (l' := [(3, .int 0), (0, .ref a0), (1, .int x1), (2, .int x2)]) dX4_readSum_25 rfl (Nat.le_of_ble_eq_true rfl) rfl ?_
      refine Eg.pick [1, 2, 3, 0] rfl ?_
      exact prX4_readSum_26 hdd hT hS hP hA _ _ _ _ _ _ h
    · refine E_iconst (v := 0) dX4_readSum_22 (by decide) ?_
      exact E_zret h dX4_readSum_23 rfl
  · refine E_aload_n dX4_readSum_5 rfl rfl ?_
    refine E_iload_n dX4_readSum_6 rfl rfl ?_
    refine F_Vi h (fun a m e => hA _ _ _ a m e) dX4_readSum_7 hm_X4_readPart hv_X4_readPart ln_X4_130 rfl rfl (Nat.le_of_ble_eq_true rfl) (Nat.le_refl _) (kc' := 0) (ks' := 0) rfl rfl (fun v20 u21 h => ?_)
    exact E_zret h dX4_readSum_10 rfl
def bX4_readPart_156 (rT rS : Mm → Nat → Int32 → Int32 → Option (Int32 × Mm)) (rP rA : Mm → Nat → Int32 → Option (Int32 × Mm)) (u : Mm) (s0 : Int32) : Option (Int32 × Mm) := oZ s0 (some (s0, u))
set_option maxRecDepth 100000 in
set_option maxHeartbeats 4000000 in
theorem pX4_readPart_156 {dd : Nat} (hdd : 0 ≤ dd) {rT : Mm → Nat → Int32 → Int32 → Option (Int32 × Mm)} (hT : ∀ (u : Mm) (a0 : Nat) (x1 x2 : Int32) (r : Int32) (u' : Mm), rT u a0 x1 x2 = some (r, u') → Ev dd MX4_readTest 0 0 [.ref a0, .int x1, .int x2] u (some (.int r), u')) {rS : Mm → Nat → Int32 → Int32 → Option (Int32 × Mm)} (hS : ∀ (u : Mm) (a0 : Nat) (x1 x2 : Int32) (r : Int32) (u' : Mm), rS u a0 x1 x2 = some (r, u') → Ev dd MX4_readSum 0 0 [.ref a0, .int x1, .int x2] u (some (.int r), u')) {rP : Mm → Nat → Int32 → Option (Int32 × Mm)} (hP : ∀ (u : Mm) (a0 : Nat) (x1 : Int32) (r : Int32) (u' : Mm), rP u a0 x1 = some (r, u') → Ev dd MX4_readPlain 0 0 [.ref a0, .int x1] u (some (.int r), u')) {rA : Mm → Nat → Int32 → Option (Int32 × Mm)} (hA : ∀ (u : Mm) (a0 : Nat) (x1 : Int32) (r : Int32) (u' : Mm), rA u a0 x1 = some (r, u') → Ev dd MX4_readPart 0 0 [.ref a0, .int x1] u (some (.int r), u')) {r : Int32} {u' : Mm} (u : Mm) (s0 : Int32) (h : bX4_readPart_156 rT rS rP rA u s0 = some (r, u')) : Eg MX4_readPart (dd + 1) 0 0 (some (.int r), u') 156 [] [.int s0] u := by
  unfold bX4_readPart_156 at h
  exact E_zret h dX4_readPart_156 rfl
def bX4_readPart_134 (rT rS : Mm → Nat → Int32 → Int32 → Option (Int32 × Mm)) (rP rA : Mm → Nat → Int32 → Option (Int32 × Mm)) (u : Mm) (a0 : Nat) (s0 : Int32) : Option (Int32 × Mm) := oK u a0 4 8 (oNn (mR u a0 7) (fun e13 => oR u e13 6 (oB (fX6_put u e13 287 s0) (fun _ u14 => (if (s0 : Int32) = ((-1)) then bX4_readPart_156 rT rS rP rA u14 0 else bX4_readPart_156 rT rS rP rA u14 1)))))
set_option maxRecDepth 100000 in
set_option maxHeartbeats 4000000 in
theorem pX4_readPart_134 {dd : Nat} (hdd : 0 ≤ dd) {rT : Mm → Nat → Int32 → Int32 → Option (Int32 × Mm)} (hT : ∀ (u : Mm) (a0 : Nat) (x1 x2 : Int32) (r : Int32) (u' : Mm), rT u a0 x1 x2 = some (r, u') → Ev dd MX4_readTest 0 0 [.ref a0, .int x1, .int x2] u (some (.int r), u')) {rS : Mm → Nat → Int32 → Int32 → Option (Int32 × Mm)} (hS : ∀ (u : Mm) (a0 : Nat) (x1 x2 : Int32) (r : Int32) (u' : Mm), rS u a0 x1 x2 = some (r, u') → Ev dd MX4_readSum 0 0 [.ref a0, .int x1, .int x2] u (some (.int r), u')) {rP : Mm → Nat → Int32 → Option (Int32 × Mm)} (hP : ∀ (u : Mm) (a0 : Nat) (x1 : Int32) (r : Int32) (u' : Mm), rP u a0 x1 = some (r, u') → Ev dd MX4_readPlain 0 0 [.ref a0, .int x1] u (some (.int r), u')) {rA : Mm → Nat → Int32 → Option (Int32 × Mm)} (hA : ∀ (u : Mm) (a0 : Nat) (x1 : Int32) (r : Int32) (u' : Mm), rA u a0 x1 = some (r, u') → Ev dd MX4_readPart 0 0 [.ref a0, .int x1] u (some (.int r), u')) {r : Int32} {u' : Mm} (u : Mm) (a0 : Nat) (s0 : Int32) (h : bX4_readPart_134 rT rS rP rA u a0 s0 = some (r, u')) : Eg MX4_readPart (dd + 1) 0 0 (some (.int r), u') 134 [(0, .ref a0)] [.int s0] u := by
  unfold bX4_readPart_134 at h
  refine E_istore_n (l' := [(3, .int s0), (0, .ref a0)]) dX4_readPart_134 rfl (Nat.le_of_ble_eq_true rfl) rfl ?_
  refine E_aload_n dX4_readPart_135 rfl rfl ?_
  refine E_getA h dX4_readPart_136 cf4 lk_X4_24 (by decide) (fun _ _ _ => rfl) (fun e13 h => ?_)
  refine E_sipush (v := 287) dX4_readPart_139 (by decide) ?_
  refine E_iload_n dX4_readPart_142 rfl rfl ?_
  refine F_Vv h (fun m e => tX6_put e) dX4_readPart_143 hm_X6_put hv_X6_put ln_X4_126 rfl rfl (Nat.le_of_ble_eq_true rfl) (by omega) (kc' := 0) (ks' := 0) rfl rfl (fun u14 h => ?_)
  refine E_iload_n dX4_readPart_146 rfl rfl ?_
  refine E_iconst (v := (-1)) dX4_readPart_147 (by decide) ?_
  refine E_ic_eq (tgt := 155) h dX4_readPart_148 (by decide) (fun h => ?_) (fun h => ?_)
  · refine E_iconst (v := 0) dX4_readPart_155 (by decide) ?_
    refine Eg.pick [] rfl ?_
    exact pX4_readPart_156 hdd hT hS hP hA _ _ h
  · refine E_iconst (v := 1) dX4_readPart_151 (by decide) ?_
    refine E_goto (tgt := 156) dX4_readPart_152 (by decide) ?_
    refine Eg.pick [] rfl ?_
    exact pX4_readPart_156 hdd hT hS hP hA _ _ h
def bX4_readPart_116 (rT rS : Mm → Nat → Int32 → Int32 → Option (Int32 × Mm)) (rP rA : Mm → Nat → Int32 → Option (Int32 × Mm)) (u : Mm) (a0 : Nat) : Option (Int32 × Mm) := oK u a0 4 8 (oI (mI u a0 6) (fun v10 => (if (v10 : Int32) = 0 then oR u a0 4 (oB (fX4_readOrderWord u a0) (fun v11 u12 => bX4_readPart_134 rT rS rP rA u12 a0 v11)) else oR u a0 4 (oB (fX4_readLawWord u a0) (fun v15 u16 => bX4_readPart_134 rT rS rP rA u16 a0 v15)))))
set_option maxRecDepth 100000 in
set_option maxHeartbeats 4000000 in
theorem pX4_readPart_116 {dd : Nat} (hdd : 0 ≤ dd) {rT : Mm → Nat → Int32 → Int32 → Option (Int32 × Mm)} (hT : ∀ (u : Mm) (a0 : Nat) (x1 x2 : Int32) (r : Int32) (u' : Mm), rT u a0 x1 x2 = some (r, u') → Ev dd MX4_readTest 0 0 [.ref a0, .int x1, .int x2] u (some (.int r), u')) {rS : Mm → Nat → Int32 → Int32 → Option (Int32 × Mm)} (hS : ∀ (u : Mm) (a0 : Nat) (x1 x2 : Int32) (r : Int32) (u' : Mm), rS u a0 x1 x2 = some (r, u') → Ev dd MX4_readSum 0 0 [.ref a0, .int x1, .int x2] u (some (.int r), u')) {rP : Mm → Nat → Int32 → Option (Int32 × Mm)} (hP : ∀ (u : Mm) (a0 : Nat) (x1 : Int32) (r : Int32) (u' : Mm), rP u a0 x1 = some (r, u') → Ev dd MX4_readPlain 0 0 [.ref a0, .int x1] u (some (.int r), u')) {rA : Mm → Nat → Int32 → Option (Int32 × Mm)} (hA : ∀ (u : Mm) (a0 : Nat) (x1 : Int32) (r : Int32) (u' : Mm), rA u a0 x1 = some (r, u') → Ev dd MX4_readPart 0 0 [.ref a0, .int x1] u (some (.int r), u')) {r : Int32} {u' : Mm} (u : Mm) (a0 : Nat) (h : bX4_readPart_116 rT rS rP rA u a0 = some (r, u')) : Eg MX4_readPart (dd + 1) 0 0 (some (.int r), u') 116 [(0, .ref a0)] [] u := by
  unfold bX4_readPart_116 at h
  refine E_aload_n dX4_readPart_116 rfl rfl ?_
  refine E_getI h dX4_readPart_117 cf4 lk_X4_28 (by decide) (fun _ _ _ => rfl) (fun h => ?_)
  refine E_oI h (fun v10 h => ?_)
  refine E_if_eq (tgt := 130) h dX4_readPart_120 (by decide) (fun h => ?_) (fun h => ?_)
  · refine E_aload_n dX4_readPart_130 rfl rfl ?_
    refine F_Vi h (fun a m e => tX4_readOrderWord e) dX4_readPart_131 hm_X4_readOrderWord hv_X4_readOrderWord ln_X4_136 rfl rfl (Nat.le_of_ble_eq_true rfl) (by omega) (kc' := 0) (ks' := 0) rfl rfl (fun v11 u12 h => ?_)
    refine Eg.pick [0] rfl ?_
    exact pX4_readPart_134 hdd hT hS hP hA _ _ _ h
  · refine E_aload_n dX4_readPart_123 rfl rfl ?_
    refine F_Vi h (fun a m e => tX4_readLawWord e) dX4_readPart_124 hm_X4_readLawWord hv_X4_readLawWord ln_X4_133 rfl rfl (Nat.le_of_ble_eq_true rfl) (by omega) (kc' := 0) (ks' := 0) rfl rfl (fun v15 u16 h => ?_)
    refine E_goto (tgt := 134) dX4_readPart_127 (by decide) ?_
    refine Eg.pick [0] rfl ?_
    exact pX4_readPart_134 hdd hT hS hP hA _ _ _ h
def bX4_readPart_54 (rT rS : Mm → Nat → Int32 → Int32 → Option (Int32 × Mm)) (rP rA : Mm → Nat → Int32 → Option (Int32 × Mm)) (u : Mm) (s0 : Int32) : Option (Int32 × Mm) := oZ s0 (some (s0, u))
set_option maxRecDepth 100000 in
set_option maxHeartbeats 4000000 in
theorem pX4_readPart_54 {dd : Nat} (hdd : 0 ≤ dd) {rT : Mm → Nat → Int32 → Int32 → Option (Int32 × Mm)} (hT : ∀ (u : Mm) (a0 : Nat) (x1 x2 : Int32) (r : Int32) (u' : Mm), rT u a0 x1 x2 = some (r, u') → Ev dd MX4_readTest 0 0 [.ref a0, .int x1, .int x2] u (some (.int r), u')) {rS : Mm → Nat → Int32 → Int32 → Option (Int32 × Mm)} (hS : ∀ (u : Mm) (a0 : Nat) (x1 x2 : Int32) (r : Int32) (u' : Mm), rS u a0 x1 x2 = some (r, u') → Ev dd MX4_readSum 0 0 [.ref a0, .int x1, .int x2] u (some (.int r), u')) {rP : Mm → Nat → Int32 → Option (Int32 × Mm)} (hP : ∀ (u : Mm) (a0 : Nat) (x1 : Int32) (r : Int32) (u' : Mm), rP u a0 x1 = some (r, u') → Ev dd MX4_readPlain 0 0 [.ref a0, .int x1] u (some (.int r), u')) {rA : Mm → Nat → Int32 → Option (Int32 × Mm)} (hA : ∀ (u : Mm) (a0 : Nat) (x1 : Int32) (r : Int32) (u' : Mm), rA u a0 x1 = some (r, u') → Ev dd MX4_readPart 0 0 [.ref a0, .int x1] u (some (.int r), u')) {r : Int32} {u' : Mm} (u : Mm) (s0 : Int32) (h : bX4_readPart_54 rT rS rP rA u s0 = some (r, u')) : Eg MX4_readPart (dd + 1) 0 0 (some (.int r), u') 54 [] [.int s0] u := by
  unfold bX4_readPart_54 at h
  exact E_zret h dX4_readPart_54 rfl
def fgX4_readPart (rT rS : Mm → Nat → Int32 → Int32 → Option (Int32 × Mm)) (rP rA : Mm → Nat → Int32 → Option (Int32 × Mm)) (u : Mm) (a0 : Nat) (x1 : Int32) : Option (Int32 × Mm) := oK u a0 4 8 (oNn (mR u a0 0) (fun e1 => oK u a0 4 8 (oI (mI u a0 4) (fun v2 => oA u e1 10 v2 (oI (mI u e1 (Int32.toNatClampNeg v2)) (fun v3 => (if (v3 : Int32) = 91 then (if (8 : Int32) ≤ x1 then bX4_readPart_54 rT rS rP rA u 0 else oR u a0 4 (oB (fX4_skip u a0 91) (fun v21 u22 => (if (v21 : Int32) = 0 then bX4_readPart_54 rT rS rP rA u22 0 else oR u22 a0 4 (oB (rS u22 a0 0 (x1 + 1)) (fun v23 u24 => (if (v23 : Int32) = 0 then bX4_readPart_54 rT rS rP rA u24 0 else oR u24 a0 4 (oB (fX4_skip u24 a0 93) (fun v25 u26 => (if (v25 : Int32) = 0 then bX4_readPart_54 rT rS rP rA u26 0 else bX4_readPart_54 rT rS rP rA u26 1)))))))))) else oK u a0 4 8 (oI (mI u a0 5) (fun v4 => (if (v4 : Int32) < 50 then oK u a0 4 8 (oI (mI u a0 5) (fun v5 => oK u a0 4 8 (oU (wI u a0 (upd (mI u a0) 5 (v5 + 1))) (fun u6 => oK u6 a0 4 8 (oNn (mR u6 a0 1) (fun e7 => oK u6 a0 4 8 (oI (mI u6 a0 4) (fun v8 => oA u6 e7 10 v8 (oI (mI u6 e7 (Int32.toNatClampNeg v8)) (fun v9 => (if (1000 : Int32) < v9 then bX4_readPart_116 rT rS rP rA u6 a0 else oR u6 a0 4 (oB (fX4_skip u6 a0 285) (fun v17 u18 => (if (v17 : Int32) = 0 then bX4_readPart_116 rT rS rP rA u18 a0 else oK u18 a0 4 8 (oNn (mR u18 a0 7) (fun e19 => oR u18 e19 6 (oB (fX6_put u18 e19 285 v9) (fun _ u20 => oZ 1 (some (1, u20)))))))))))))))))))) else oZ 0 (some (0, u))))))))))))
set_option maxRecDepth 100000 in
set_option maxHeartbeats 4000000 in
theorem tgX4_readPart {dd : Nat} (hdd : 0 ≤ dd) {rT : Mm → Nat → Int32 → Int32 → Option (Int32 × Mm)} (hT : ∀ (u : Mm) (a0 : Nat) (x1 x2 : Int32) (r : Int32) (u' : Mm), rT u a0 x1 x2 = some (r, u') → Ev dd MX4_readTest 0 0 [.ref a0, .int x1, .int x2] u (some (.int r), u')) {rS : Mm → Nat → Int32 → Int32 → Option (Int32 × Mm)} (hS : ∀ (u : Mm) (a0 : Nat) (x1 x2 : Int32) (r : Int32) (u' : Mm), rS u a0 x1 x2 = some (r, u') → Ev dd MX4_readSum 0 0 [.ref a0, .int x1, .int x2] u (some (.int r), u')) {rP : Mm → Nat → Int32 → Option (Int32 × Mm)} (hP : ∀ (u : Mm) (a0 : Nat) (x1 : Int32) (r : Int32) (u' : Mm), rP u a0 x1 = some (r, u') → Ev dd MX4_readPlain 0 0 [.ref a0, .int x1] u (some (.int r), u')) {rA : Mm → Nat → Int32 → Option (Int32 × Mm)} (hA : ∀ (u : Mm) (a0 : Nat) (x1 : Int32) (r : Int32) (u' : Mm), rA u a0 x1 = some (r, u') → Ev dd MX4_readPart 0 0 [.ref a0, .int x1] u (some (.int r), u')) {u : Mm} {a0 : Nat} {x1 : Int32} {r : Int32} {u' : Mm} (h : fgX4_readPart rT rS rP rA u a0 x1 = some (r, u')) : Ev (dd + 1) MX4_readPart 0 0 [.ref a0, .int x1] u (some (.int r), u') := by
  refine Ev.of (by decide +kernel) (Nat.le_of_ble_eq_true rfl) (show Eg MX4_readPart (dd + 1) 0 0 (some (.int r), u') 0 [(0, .ref a0), (1, .int x1)] [] u from ?_)
  unfold fgX4_readPart at h
  refine E_aload_n dX4_readPart_0 rfl rfl ?_
  refine E_getA h dX4_readPart_1 cf4 lk_X4_9 (by decide) (fun _ _ _ => rfl) (fun e1 h => ?_)
  refine E_aload_n dX4_readPart_4 rfl rfl ?_
  refine E_getI h dX4_readPart_5 cf4 lk_X4_36 (by decide) (fun _ _ _ => rfl) (fun h => ?_)
  refine E_oI h (fun v2 h => ?_)
  refine E_iald h dX4_readPart_8 (fun h => ?_)
  refine E_oI h (fun v3 h => ?_)
  refine E_bipush (v := 91) dX4_readPart_9 (by decide) ?_
  refine E_ic_ne (tgt := 55) h dX4_readPart_11 (by decide) (fun h => ?_) (fun h => ?_)
  · refine E_aload_n dX4_readPart_55 rfl rfl ?_
    refine E_getI h dX4_readPart_56 cf4 lk_X4_39 (by decide) (fun _ _ _ => rfl) (fun h => ?_)
    refine E_oI h (fun v4 h => ?_)
    refine E_bipush (v := 50) dX4_readPart_59 (by decide) ?_
    refine E_ic_lt (tgt := 66) h dX4_readPart_61 (by decide) (fun h => ?_) (fun h => ?_)
    · refine E_aload_n dX4_readPart_66 rfl rfl ?_
      refine E_dup dX4_readPart_67 rfl ?_
      refine E_getI h dX4_readPart_68 cf4 lk_X4_39 (by decide) (fun _ _ _ => rfl) (fun h => ?_)
      refine E_oI h (fun v5 h => ?_)
      refine E_iconst (v := 1) dX4_readPart_71 (by decide) ?_
      refine E_iadd dX4_readPart_72 ?_
      refine E_putI h dX4_readPart_73 cf4 lk_X4_39 (by decide) (Or.inl rfl) rfl (fun h => ?_)
      refine E_oU h (fun u6 h => ?_)
      refine E_aload_n dX4_readPart_76 rfl rfl ?_
      refine E_getA h dX4_readPart_77 cf4 lk_X4_15 (by decide) (fun _ _ _ => rfl) (fun e7 h => ?_)
      refine E_aload_n dX4_readPart_80 rfl rfl ?_
      refine E_getI h dX4_readPart_81 cf4 lk_X4_36 (by decide) (fun _ _ _ => rfl) (fun h => ?_)
      refine E_oI h (fun v8 h => ?_)
      refine E_iald h dX4_readPart_84 (fun h => ?_)
      refine E_oI h (fun v9 h => ?_)
      refine E_istore_n (l' := [(2, .int v9), (0, .ref a0), (1, .int x1)]) dX4_readPart_85 rfl (Nat.le_of_ble_eq_true rfl) rfl ?_
      refine E_iload_n dX4_readPart_86 rfl rfl ?_
      refine E_sipush (v := 1000) dX4_readPart_87 (by decide) ?_
      refine E_ic_gt (tgt := 116) h dX4_readPart_90 (by decide) (fun h => ?_) (fun h => ?_)
      · refine Eg.pick [1] rfl ?_
        exact pX4_readPart_116 hdd hT hS hP hA _ _ h
      · refine E_aload_n dX4_readPart_93 rfl rfl ?_
        refine E_sipush (v := 285) dX4_readPart_94 (by decide) ?_
        refine F_Vi h (fun a m e => tX4_skip e) dX4_readPart_97 hm_X4_skip hv_X4_skip ln_X4_53 rfl rfl (Nat.le_of_ble_eq_true rfl) (by omega) (kc' := 0) (ks' := 0) rfl rfl (fun v17 u18 h => ?_)
        refine E_if_eq (tgt := 116) h dX4_readPart_100 (by decide) (fun h => ?_) (fun h => ?_)
        · refine Eg.pick [1] rfl ?_
          exact pX4_readPart_116 hdd hT hS hP hA _ _ h
        · refine E_aload_n dX4_readPart_103 rfl rfl ?_
          refine E_getA h dX4_readPart_104 cf4 lk_X4_24 (by decide) (fun _ _ _ => rfl) (fun e19 h => ?_)
          refine E_sipush (v := 285) dX4_readPart_107 (by decide) ?_
          refine E_iload_n dX4_readPart_110 rfl rfl ?_
          refine F_Vv h (fun m e => tX6_put e) dX4_readPart_111 hm_X6_put hv_X6_put ln_X4_126 rfl rfl (Nat.le_of_ble_eq_true rfl) (by omega) (kc' := 0) (ks' := 0) rfl rfl (fun u20 h => ?_)
          refine E_iconst (v := 1) dX4_readPart_114 (by decide) ?_
          exact E_zret h dX4_readPart_115 rfl
    · refine E_iconst (v := 0) dX4_readPart_64 (by decide) ?_
      exact E_zret h dX4_readPart_65 rfl
  · refine E_iload_n dX4_readPart_14 rfl rfl ?_
    refine E_bipush (v := 8) dX4_readPart_15 (by decide) ?_
    refine E_ic_ge (tgt := 53) h dX4_readPart_17 (by decide) (fun h => ?_) (fun h => ?_)
    · refine E_iconst (v := 0) dX4_readPart_53 (by decide) ?_
      refine Eg.pick [] rfl ?_
      exact pX4_readPart_54 hdd hT hS hP hA _ _ h
    · refine E_aload_n dX4_readPart_20 rfl rfl ?_
      refine E_bipush (v := 91) dX4_readPart_21 (by decide) ?_
      refine F_Vi h (fun a m e => tX4_skip e) dX4_readPart_23 hm_X4_skip hv_X4_skip ln_X4_53 rfl rfl (Nat.le_of_ble_eq_true rfl) (by omega) (kc' := 0) (ks' := 0) rfl rfl (fun v21 u22 h => ?_)
      refine E_if_eq (tgt := 53) h dX4_readPart_26 (by decide) (fun h => ?_) (fun h => ?_)
      · refine E_iconst (v := 0) dX4_readPart_53 (by decide) ?_
        refine Eg.pick [] rfl ?_
        exact pX4_readPart_54 hdd hT hS hP hA _ _ h
      · refine E_aload_n dX4_readPart_29 rfl rfl ?_
        refine E_iconst (v := 0) dX4_readPart_30 (by decide) ?_
        refine E_iload_n dX4_readPart_31 rfl rfl ?_
        refine E_iconst (v := 1) dX4_readPart_32 (by decide) ?_
        refine E_iadd dX4_readPart_33 ?_
        refine F_Vi h (fun a m e => hS _ _ _ _ a m e) dX4_readPart_34 hm_X4_readSum hv_X4_readSum ln_X4_120 rfl rfl (Nat.le_of_ble_eq_true rfl) (Nat.le_refl _) (kc' := 0) (ks' := 0) rfl rfl (fun v23 u24 h => ?_)
        refine E_if_eq (tgt := 53) h dX4_readPart_37 (by decide) (fun h => ?_) (fun h => ?_)
        · refine E_iconst (v := 0) dX4_readPart_53 (by decide) ?_
          refine Eg.pick [] rfl ?_
          exact pX4_readPart_54 hdd hT hS hP hA _ _ h
        · refine E_aload_n dX4_readPart_40 rfl rfl ?_
          refine E_bipush (v := 93) dX4_readPart_41 (by decide) ?_
          refine F_Vi h (fun a m e => tX4_skip e) dX4_readPart_43 hm_X4_skip hv_X4_skip ln_X4_53 rfl rfl (Nat.le_of_ble_eq_true rfl) (by omega) (kc' := 0) (ks' := 0) rfl rfl (fun v25 u26 h => ?_)
          refine E_if_eq (tgt := 53) h dX4_readPart_46 (by decide) (fun h => ?_) (fun h => ?_)
          · refine E_iconst (v := 0) dX4_readPart_53 (by decide) ?_
            refine Eg.pick [] rfl ?_
            exact pX4_readPart_54 hdd hT hS hP hA _ _ h
          · refine E_iconst (v := 1) dX4_readPart_49 (by decide) ?_
            refine E_goto (tgt := 54) dX4_readPart_50 (by decide) ?_
            refine Eg.pick [] rfl ?_
            exact pX4_readPart_54 hdd hT hS hP hA _ _ h
def frX4 : Nat → Nat → Mm → Nat → Int32 → Int32 → Option (Int32 × Mm)
  | 0, _, _, _, _, _ => none
  | n + 1, t, u, a, x, y => if t = 0 then fgX4_readTest (frX4 n 0) (frX4 n 2) (fun u a x => frX4 n 1 u a x 0) (fun u a x => frX4 n 3 u a x 0) u a x y else if t = 1 then fgX4_readPlain (frX4 n 0) (frX4 n 2) (fun u a x => frX4 n 1 u a x 0) (fun u a x => frX4 n 3 u a x 0) u a x else if t = 2 then fgX4_readSum (frX4 n 0) (frX4 n 2) (fun u a x => frX4 n 1 u a x 0) (fun u a x => frX4 n 3 u a x 0) u a x y else fgX4_readPart (frX4 n 0) (frX4 n 2) (fun u a x => frX4 n 1 u a x 0) (fun u a x => frX4 n 3 u a x 0) u a x
theorem frX4_0 (n : Nat) (u : Mm) (a : Nat) (x y : Int32) : frX4 (n + 1) 0 u a x y = fgX4_readTest (frX4 n 0) (frX4 n 2) (fun u a x => frX4 n 1 u a x 0) (fun u a x => frX4 n 3 u a x 0) u a x y := by rw [frX4, if_pos rfl]
theorem frX4_1 (n : Nat) (u : Mm) (a : Nat) (x y : Int32) : frX4 (n + 1) 1 u a x y = fgX4_readPlain (frX4 n 0) (frX4 n 2) (fun u a x => frX4 n 1 u a x 0) (fun u a x => frX4 n 3 u a x 0) u a x := by rw [frX4, if_neg (by decide), if_pos rfl]
theorem frX4_2 (n : Nat) (u : Mm) (a : Nat) (x y : Int32) : frX4 (n + 1) 2 u a x y = fgX4_readSum (frX4 n 0) (frX4 n 2) (fun u a x => frX4 n 1 u a x 0) (fun u a x => frX4 n 3 u a x 0) u a x y := by rw [frX4, if_neg (by decide), if_neg (by decide), if_pos rfl]
theorem frX4_3 (n : Nat) (u : Mm) (a : Nat) (x y : Int32) : frX4 (n + 1) 3 u a x y = fgX4_readPart (frX4 n 0) (frX4 n 2) (fun u a x => frX4 n 1 u a x 0) (fun u a x => frX4 n 3 u a x 0) u a x := by rw [frX4, if_neg (by decide), if_neg (by decide), if_neg (by decide)]
theorem trX4 (n : Nat) : (∀ (u : Mm) (a : Nat) (x y : Int32) (r : Int32) (u' : Mm), frX4 n 0 u a x y = some (r, u') → Ev (0 + n) MX4_readTest 0 0 [.ref a, .int x, .int y] u (some (.int r), u')) ∧ (∀ (u : Mm) (a : Nat) (x y : Int32) (r : Int32) (u' : Mm), frX4 n 1 u a x y = some (r, u') → Ev (0 + n) MX4_readPlain 0 0 [.ref a, .int x] u (some (.int r), u')) ∧ (∀ (u : Mm) (a : Nat) (x y : Int32) (r : Int32) (u' : Mm), frX4 n 2 u a x y = some (r, u') → Ev (0 + n) MX4_readSum 0 0 [.ref a, .int x, .int y] u (some (.int r), u')) ∧ (∀ (u : Mm) (a : Nat) (x y : Int32) (r : Int32) (u' : Mm), frX4 n 3 u a x y = some (r, u') → Ev (0 + n) MX4_readPart 0 0 [.ref a, .int x] u (some (.int r), u')) := by
  induction n with
  | zero => exact ⟨fun u a x y r u' h => (by rw [frX4] at h; cases h), fun u a x y r u' h => (by rw [frX4] at h; cases h), fun u a x y r u' h => (by rw [frX4] at h; cases h), fun u a x y r u' h => (by rw [frX4] at h; cases h)⟩
  | succ n ih =>
    obtain ⟨i1, i2, i3, i4⟩ := ih
    refine ⟨fun u a x y r u' h => ?_, fun u a x y r u' h => ?_, fun u a x y r u' h => ?_, fun u a x y r u' h => ?_⟩
    · rw [frX4_0] at h
      exact tgX4_readTest (dd := 0 + n) (by omega) i1 i3 (fun u a x r u' h => i2 u a x 0 r u' h) (fun u a x r u' h => i4 u a x 0 r u' h) h
    · rw [frX4_1] at h
      exact tgX4_readPlain (dd := 0 + n) (by omega) i1 i3 (fun u a x r u' h => i2 u a x 0 r u' h) (fun u a x r u' h => i4 u a x 0 r u' h) h
    · rw [frX4_2] at h
      exact tgX4_readSum (dd := 0 + n) (by omega) i1 i3 (fun u a x r u' h => i2 u a x 0 r u' h) (fun u a x r u' h => i4 u a x 0 r u' h) h
    · rw [frX4_3] at h
      exact tgX4_readPart (dd := 0 + n) (by omega) i1 i3 (fun u a x r u' h => i2 u a x 0 r u' h) (fun u a x r u' h => i4 u a x 0 r u' h) h
def fX4_readTest (u : Mm) (a0 : Nat) (x1 : Int32) (x2 : Int32) : Option (Int32 × Mm) := frX4 64 0 u a0 x1 x2
theorem tX4_readTest {u : Mm} {a0 : Nat} {x1 : Int32} {x2 : Int32} {r : Int32} {u' : Mm} (h : fX4_readTest u a0 x1 x2 = some (r, u')) : Ev 64 MX4_readTest 0 0 [.ref a0, .int x1, .int x2] u (some (.int r), u') := (trX4 64).1 u a0 x1 x2 r u' h
def fX4_readPlain (u : Mm) (a0 : Nat) (x1 : Int32) : Option (Int32 × Mm) := frX4 64 1 u a0 x1 0
theorem tX4_readPlain {u : Mm} {a0 : Nat} {x1 : Int32} {r : Int32} {u' : Mm} (h : fX4_readPlain u a0 x1 = some (r, u')) : Ev 64 MX4_readPlain 0 0 [.ref a0, .int x1] u (some (.int r), u') := (trX4 64).2.1 u a0 x1 0 r u' h
def fX4_readSum (u : Mm) (a0 : Nat) (x1 : Int32) (x2 : Int32) : Option (Int32 × Mm) := frX4 64 2 u a0 x1 x2
theorem tX4_readSum {u : Mm} {a0 : Nat} {x1 : Int32} {x2 : Int32} {r : Int32} {u' : Mm} (h : fX4_readSum u a0 x1 x2 = some (r, u')) : Ev 64 MX4_readSum 0 0 [.ref a0, .int x1, .int x2] u (some (.int r), u') := (trX4 64).2.2.1 u a0 x1 x2 r u' h
def fX4_readPart (u : Mm) (a0 : Nat) (x1 : Int32) : Option (Int32 × Mm) := frX4 64 3 u a0 x1 0
theorem tX4_readPart {u : Mm} {a0 : Nat} {x1 : Int32} {r : Int32} {u' : Mm} (h : fX4_readPart u a0 x1 = some (r, u')) : Ev 64 MX4_readPart 0 0 [.ref a0, .int x1] u (some (.int r), u') := (trX4 64).2.2.2 u a0 x1 0 r u' h
def fX4_readSumBehind (u : Mm) (a0 : Nat) (x1 : Int32) (x2 : Int32) : Option (Int32 × Mm) := oR u a0 4 (oB (fX4_skip u a0 x1) (fun v1 u2 => (if (v1 : Int32) = 0 then oZ 0 (some (0, u2)) else oK u2 a0 4 8 (oNn (mR u2 a0 7) (fun e3 => oR u2 e3 6 (oB (fX6_beginPlace u2 e3 x2) (fun _ u4 => oR u4 a0 4 (oB (fX4_readSum u4 a0 0 0) (fun v5 u6 => oZ v5 (some (v5, u6)))))))))))
set_option maxRecDepth 100000 in
set_option maxHeartbeats 4000000 in
theorem tX4_readSumBehind {u : Mm} {a0 : Nat} {x1 : Int32} {x2 : Int32} {r : Int32} {u' : Mm} (h : fX4_readSumBehind u a0 x1 x2 = some (r, u')) : Ev 65 MX4_readSumBehind 0 0 [.ref a0, .int x1, .int x2] u (some (.int r), u') := by
  refine Ev.of (by decide +kernel) (Nat.le_of_ble_eq_true rfl) (show Eg MX4_readSumBehind 65 0 0 (some (.int r), u') 0 [(0, .ref a0), (1, .int x1), (2, .int x2)] [] u from ?_)
  unfold fX4_readSumBehind at h
  refine E_aload_n dX4_readSumBehind_0 rfl rfl ?_
  refine E_iload_n dX4_readSumBehind_1 rfl rfl ?_
  refine F_Vi h (fun a m e => tX4_skip e) dX4_readSumBehind_2 hm_X4_skip hv_X4_skip ln_X4_53 rfl rfl (Nat.le_of_ble_eq_true rfl) (Nat.le_of_ble_eq_true rfl) (kc' := 0) (ks' := 0) rfl rfl (fun v1 u2 h => ?_)
  refine E_if_ne (tgt := 10) h dX4_readSumBehind_5 (by decide) (fun h => ?_) (fun h => ?_)
  · refine E_aload_n dX4_readSumBehind_10 rfl rfl ?_
    refine E_getA h dX4_readSumBehind_11 cf4 lk_X4_24 (by decide) (fun _ _ _ => rfl) (fun e3 h => ?_)
    refine E_iload_n dX4_readSumBehind_14 rfl rfl ?_
    refine F_Vv h (fun m e => tX6_beginPlace e) dX4_readSumBehind_15 hm_X6_beginPlace hv_X6_beginPlace ln_X4_100 rfl rfl (Nat.le_of_ble_eq_true rfl) (Nat.le_of_ble_eq_true rfl) (kc' := 0) (ks' := 0) rfl rfl (fun u4 h => ?_)
    refine E_aload_n dX4_readSumBehind_18 rfl rfl ?_
    refine E_iconst (v := 0) dX4_readSumBehind_19 (by decide) ?_
    refine E_iconst (v := 0) dX4_readSumBehind_20 (by decide) ?_
    refine F_Vi h (fun a m e => tX4_readSum e) dX4_readSumBehind_21 hm_X4_readSum hv_X4_readSum ln_X4_120 rfl rfl (Nat.le_of_ble_eq_true rfl) (Nat.le_of_ble_eq_true rfl) (kc' := 0) (ks' := 0) rfl rfl (fun v5 u6 h => ?_)
    exact E_zret h dX4_readSumBehind_24 rfl
  · refine E_iconst (v := 0) dX4_readSumBehind_8 (by decide) ?_
    exact E_zret h dX4_readSumBehind_9 rfl
def bX4_readLaw_48 (u : Mm) (s0 : Int32) : Option (Int32 × Mm) := oZ s0 (some (s0, u))
set_option maxRecDepth 100000 in
set_option maxHeartbeats 4000000 in
theorem pX4_readLaw_48 {r : Int32} {u' : Mm} (u : Mm) (s0 : Int32) (h : bX4_readLaw_48 u s0 = some (r, u')) : Eg MX4_readLaw 66 0 0 (some (.int r), u') 48 [] [.int s0] u := by
  unfold bX4_readLaw_48 at h
  exact E_zret h dX4_readLaw_48 rfl
def bX4_readLaw_34 (u : Mm) (a0 : Nat) (x1 : Int32) : Option (Int32 × Mm) := oR u a0 4 (oB (fX4_readSumBehind u a0 x1 0) (fun v1 u2 => (if (v1 : Int32) = 0 then bX4_readLaw_48 u2 0 else bX4_readLaw_48 u2 1)))
set_option maxRecDepth 100000 in
set_option maxHeartbeats 4000000 in
theorem pX4_readLaw_34 {r : Int32} {u' : Mm} (u : Mm) (a0 : Nat) (x1 : Int32) (h : bX4_readLaw_34 u a0 x1 = some (r, u')) : Eg MX4_readLaw 66 0 0 (some (.int r), u') 34 [(0, .ref a0), (1, .int x1)] [] u := by
  unfold bX4_readLaw_34 at h
  refine E_aload_n dX4_readLaw_34 rfl rfl ?_
  refine E_iload_n dX4_readLaw_35 rfl rfl ?_
  refine E_iconst (v := 0) dX4_readLaw_36 (by decide) ?_
  refine F_Vi h (fun a m e => tX4_readSumBehind e) dX4_readLaw_37 hm_X4_readSumBehind hv_X4_readSumBehind ln_X4_107 rfl rfl (Nat.le_of_ble_eq_true rfl) (Nat.le_of_ble_eq_true rfl) (kc' := 0) (ks' := 0) rfl rfl (fun v1 u2 h => ?_)
  refine E_if_eq (tgt := 47) h dX4_readLaw_40 (by decide) (fun h => ?_) (fun h => ?_)
  · refine E_iconst (v := 0) dX4_readLaw_47 (by decide) ?_
    refine Eg.pick [] rfl ?_
    exact pX4_readLaw_48 _ _ h
  · refine E_iconst (v := 1) dX4_readLaw_43 (by decide) ?_
    refine E_goto (tgt := 48) dX4_readLaw_44 (by decide) ?_
    refine Eg.pick [] rfl ?_
    exact pX4_readLaw_48 _ _ h
def fX4_readLaw (u : Mm) (a0 : Nat) (x1 : Int32) : Option (Int32 × Mm) := (if (x1 : Int32) = 259 then oR u a0 4 (oB (fX4_skip u a0 x1) (fun v3 u4 => oZ v3 (some (v3, u4)))) else (if (x1 : Int32) = 256 then bX4_readLaw_34 u a0 x1 else (if (x1 : Int32) = 257 then bX4_readLaw_34 u a0 x1 else (if (x1 : Int32) = 258 then bX4_readLaw_34 u a0 x1 else bX4_readLaw_48 u 0))))
set_option maxRecDepth 100000 in
set_option maxHeartbeats 4000000 in
theorem tX4_readLaw {u : Mm} {a0 : Nat} {x1 : Int32} {r : Int32} {u' : Mm} (h : fX4_readLaw u a0 x1 = some (r, u')) : Ev 66 MX4_readLaw 0 0 [.ref a0, .int x1] u (some (.int r), u') := by
  refine Ev.of (by decide +kernel) (Nat.le_of_ble_eq_true rfl) (show Eg MX4_readLaw 66 0 0 (some (.int r), u') 0 [(0, .ref a0), (1, .int x1)] [] u from ?_)
  unfold fX4_readLaw at h
  refine E_iload_n dX4_readLaw_0 rfl rfl ?_
  refine E_sipush (v := 259) dX4_readLaw_1 (by decide) ?_
  refine E_ic_ne (tgt := 13) h dX4_readLaw_4 (by decide) (fun h => ?_) (fun h => ?_)
  · refine E_iload_n dX4_readLaw_13 rfl rfl ?_
    refine E_sipush (v := 256) dX4_readLaw_14 (by decide) ?_
    refine E_ic_eq (tgt := 34) h dX4_readLaw_17 (by decide) (fun h => ?_) (fun h => ?_)
    · refine Eg.pick [0, 1] rfl ?_
      exact pX4_readLaw_34 _ _ _ h
    · refine E_iload_n dX4_readLaw_20 rfl rfl ?_
      refine E_sipush (v := 257) dX4_readLaw_21 (by decide) ?_
      refine E_ic_eq (tgt := 34) h dX4_readLaw_24 (by decide) (fun h => ?_) (fun h => ?_)
      · refine Eg.pick [0, 1] rfl ?_
        exact pX4_readLaw_34 _ _ _ h
      · refine E_iload_n dX4_readLaw_27 rfl rfl ?_
        refine E_sipush (v := 258) dX4_readLaw_28 (by decide) ?_
        refine E_ic_ne (tgt := 47) h dX4_readLaw_31 (by decide) (fun h => ?_) (fun h => ?_)
        · refine E_iconst (v := 0) dX4_readLaw_47 (by decide) ?_
          refine Eg.pick [] rfl ?_
          exact pX4_readLaw_48 _ _ h
        · refine Eg.pick [0, 1] rfl ?_
          exact pX4_readLaw_34 _ _ _ h
  · refine E_aload_n dX4_readLaw_7 rfl rfl ?_
    refine E_iload_n dX4_readLaw_8 rfl rfl ?_
    refine F_Vi h (fun a m e => tX4_skip e) dX4_readLaw_9 hm_X4_skip hv_X4_skip ln_X4_53 rfl rfl (Nat.le_of_ble_eq_true rfl) (Nat.le_of_ble_eq_true rfl) (kc' := 0) (ks' := 0) rfl rfl (fun v3 u4 h => ?_)
    exact E_zret h dX4_readLaw_12 rfl
def fX6_setTimes (u : Mm) (a0 : Nat) (x1 : Int32) : Option (Unit × Mm) := oK u a0 6 7 (oI (mI u a0 6) (fun v1 => (if (v1 : Int32) ≤ 0 then some ((), u) else oK u a0 6 7 (oNn (mR u a0 4) (fun e2 => oK u a0 6 7 (oI (mI u a0 6) (fun v3 => oA u e2 10 (v3 - 1) (oU (wI u e2 (upd (mI u e2) (Int32.toNatClampNeg (v3 - 1)) x1)) (fun u4 => some ((), u4))))))))))
set_option maxRecDepth 100000 in
set_option maxHeartbeats 4000000 in
theorem tX6_setTimes {u : Mm} {a0 : Nat} {x1 : Int32} {r : Unit} {u' : Mm} (h : fX6_setTimes u a0 x1 = some (r, u')) : Ev 0 MX6_setTimes 0 0 [.ref a0, .int x1] u (none, u') := by
  refine Ev.of (by decide +kernel) (Nat.le_of_ble_eq_true rfl) (show Eg MX6_setTimes 0 0 0 (none, u') 0 [(0, .ref a0), (1, .int x1)] [] u from ?_)
  unfold fX6_setTimes at h
  refine E_aload_n dX6_setTimes_0 rfl rfl ?_
  refine E_getI h dX6_setTimes_1 cf6 lk_X6_37 (by decide) (fun _ _ _ => rfl) (fun h => ?_)
  refine E_oI h (fun v1 h => ?_)
  refine E_if_le (tgt := 19) h dX6_setTimes_4 (by decide) (fun h => ?_) (fun h => ?_)
  · exact E_vret h dX6_setTimes_19 rfl
  · refine E_aload_n dX6_setTimes_7 rfl rfl ?_
    refine E_getA h dX6_setTimes_8 cf6 lk_X6_21 (by decide) (fun _ _ _ => rfl) (fun e2 h => ?_)
    refine E_aload_n dX6_setTimes_11 rfl rfl ?_
    refine E_getI h dX6_setTimes_12 cf6 lk_X6_37 (by decide) (fun _ _ _ => rfl) (fun h => ?_)
    refine E_oI h (fun v3 h => ?_)
    refine E_iconst (v := 1) dX6_setTimes_15 (by decide) ?_
    refine E_isub dX6_setTimes_16 ?_
    refine E_iload_n dX6_setTimes_17 rfl rfl ?_
    refine E_iast h dX6_setTimes_18 (fun h => ?_)
    refine E_oU h (fun u4 h => ?_)
    exact E_vret h dX6_setTimes_19 rfl
def fX4_readTimes (u : Mm) (a0 : Nat) : Option (Int32 × Mm) := oK u a0 4 8 (oNn (mR u a0 1) (fun e1 => oK u a0 4 8 (oI (mI u a0 4) (fun v2 => oA u e1 10 v2 (oI (mI u e1 (Int32.toNatClampNeg v2)) (fun v3 => oB (fX8_within u v3 1 20) (fun v4 u5 => (if (v4 : Int32) = 0 then oZ 0 (some (0, u5)) else oR u5 a0 4 (oB (fX4_skip u5 a0 285) (fun v6 u7 => (if (v6 : Int32) = 0 then oZ 0 (some (0, u7)) else oK u7 a0 4 8 (oNn (mR u7 a0 7) (fun e8 => oR u7 e8 6 (oB (fX6_setTimes u7 e8 v3) (fun _ u9 => oZ 1 (some (1, u9)))))))))))))))))
set_option maxRecDepth 100000 in
set_option maxHeartbeats 4000000 in
theorem tX4_readTimes {u : Mm} {a0 : Nat} {r : Int32} {u' : Mm} (h : fX4_readTimes u a0 = some (r, u')) : Ev 1 MX4_readTimes 0 0 [.ref a0] u (some (.int r), u') := by
  refine Ev.of (by decide +kernel) (Nat.le_of_ble_eq_true rfl) (show Eg MX4_readTimes 1 0 0 (some (.int r), u') 0 [(0, .ref a0)] [] u from ?_)
  unfold fX4_readTimes at h
  refine E_aload_n dX4_readTimes_0 rfl rfl ?_
  refine E_getA h dX4_readTimes_1 cf4 lk_X4_15 (by decide) (fun _ _ _ => rfl) (fun e1 h => ?_)
  refine E_aload_n dX4_readTimes_4 rfl rfl ?_
  refine E_getI h dX4_readTimes_5 cf4 lk_X4_36 (by decide) (fun _ _ _ => rfl) (fun h => ?_)
  refine E_oI h (fun v2 h => ?_)
  refine E_iald h dX4_readTimes_8 (fun h => ?_)
  refine E_oI h (fun v3 h => ?_)
  refine E_istore_n (l' := [(1, .int v3), (0, .ref a0)]) dX4_readTimes_9 rfl (Nat.le_of_ble_eq_true rfl) rfl ?_
  refine E_iload_n dX4_readTimes_10 rfl rfl ?_
  refine E_iconst (v := 1) dX4_readTimes_11 (by decide) ?_
  refine E_bipush (v := 20) dX4_readTimes_12 (by decide) ?_
  refine F_Si h (fun a m e => tX8_within e) dX4_readTimes_14 hm_X8_within hs_X8_within ln_X4_113 rfl rfl (Nat.le_of_ble_eq_true rfl) (Nat.le_of_ble_eq_true rfl) (kc' := 0) (ks' := 0) rfl rfl (fun v4 u5 h => ?_)
  refine E_if_eq (tgt := 30) h dX4_readTimes_17 (by decide) (fun h => ?_) (fun h => ?_)
  · refine E_iconst (v := 0) dX4_readTimes_30 (by decide) ?_
    exact E_zret h dX4_readTimes_31 rfl
  · refine E_aload_n dX4_readTimes_20 rfl rfl ?_
    refine E_sipush (v := 285) dX4_readTimes_21 (by decide) ?_
    refine F_Vi h (fun a m e => tX4_skip e) dX4_readTimes_24 hm_X4_skip hv_X4_skip ln_X4_53 rfl rfl (Nat.le_of_ble_eq_true rfl) (Nat.le_of_ble_eq_true rfl) (kc' := 0) (ks' := 0) rfl rfl (fun v6 u7 h => ?_)
    refine E_if_ne (tgt := 32) h dX4_readTimes_27 (by decide) (fun h => ?_) (fun h => ?_)
    · refine E_aload_n dX4_readTimes_32 rfl rfl ?_
      refine E_getA h dX4_readTimes_33 cf4 lk_X4_24 (by decide) (fun _ _ _ => rfl) (fun e8 h => ?_)
      refine E_iload_n dX4_readTimes_36 rfl rfl ?_
      refine F_Vv h (fun m e => tX6_setTimes e) dX4_readTimes_37 hm_X6_setTimes hv_X6_setTimes ln_X4_117 rfl rfl (Nat.le_of_ble_eq_true rfl) (Nat.le_of_ble_eq_true rfl) (kc' := 0) (ks' := 0) rfl rfl (fun u9 h => ?_)
      refine E_iconst (v := 1) dX4_readTimes_40 (by decide) ?_
      exact E_zret h dX4_readTimes_41 rfl
    · refine E_iconst (v := 0) dX4_readTimes_30 (by decide) ?_
      exact E_zret h dX4_readTimes_31 rfl
def bX4_readOrder_167 (u : Mm) (s0 : Int32) : Option (Int32 × Mm) := oZ s0 (some (s0, u))
set_option maxRecDepth 100000 in
set_option maxHeartbeats 4000000 in
theorem pX4_readOrder_167 {r : Int32} {u' : Mm} (u : Mm) (s0 : Int32) (h : bX4_readOrder_167 u s0 = some (r, u')) : Eg MX4_readOrder 66 0 0 (some (.int r), u') 167 [] [.int s0] u := by
  unfold bX4_readOrder_167 at h
  exact E_zret h dX4_readOrder_167 rfl
def bX4_readOrder_162 (u : Mm) : Option (Int32 × Mm) := bX4_readOrder_167 u 1
set_option maxRecDepth 100000 in
set_option maxHeartbeats 4000000 in
theorem pX4_readOrder_162 {r : Int32} {u' : Mm} (u : Mm) (h : bX4_readOrder_162 u = some (r, u')) : Eg MX4_readOrder 66 0 0 (some (.int r), u') 162 [] [] u := by
  unfold bX4_readOrder_162 at h
  refine E_iconst (v := 1) dX4_readOrder_162 (by decide) ?_
  refine E_goto (tgt := 167) dX4_readOrder_163 (by decide) ?_
  refine Eg.pick [] rfl ?_
  exact pX4_readOrder_167 _ _ h
def bX4_readOrder_141 (u : Mm) (a0 : Nat) (x2 : Int32) : Option (Int32 × Mm) := (if (x2 : Int32) = 0 then bX4_readOrder_167 u 0 else oR u a0 4 (oB (fX4_skip u a0 267) (fun v3 u4 => (if (v3 : Int32) = 0 then bX4_readOrder_162 u4 else oR u4 a0 4 (oB (fX4_readTimes u4 a0) (fun v5 u6 => (if (v5 : Int32) = 0 then bX4_readOrder_167 u6 0 else bX4_readOrder_162 u6)))))))
set_option maxRecDepth 100000 in
set_option maxHeartbeats 4000000 in
theorem pX4_readOrder_141 {r : Int32} {u' : Mm} (u : Mm) (a0 : Nat) (x2 : Int32) (h : bX4_readOrder_141 u a0 x2 = some (r, u')) : Eg MX4_readOrder 66 0 0 (some (.int r), u') 141 [(0, .ref a0), (2, .int x2)] [] u := by
  unfold bX4_readOrder_141 at h
  refine E_iload_n dX4_readOrder_141 rfl rfl ?_
  refine E_if_eq (tgt := 166) h dX4_readOrder_142 (by decide) (fun h => ?_) (fun h => ?_)
  · refine E_iconst (v := 0) dX4_readOrder_166 (by decide) ?_
    refine Eg.pick [] rfl ?_
    exact pX4_readOrder_167 _ _ h
  · refine E_aload_n dX4_readOrder_145 rfl rfl ?_
    refine E_sipush (v := 267) dX4_readOrder_146 (by decide) ?_
    refine F_Vi h (fun a m e => tX4_skip e) dX4_readOrder_149 hm_X4_skip hv_X4_skip ln_X4_53 rfl rfl (Nat.le_of_ble_eq_true rfl) (Nat.le_of_ble_eq_true rfl) (kc' := 0) (ks' := 0) rfl rfl (fun v3 u4 h => ?_)
    refine E_if_eq (tgt := 162) h dX4_readOrder_152 (by decide) (fun h => ?_) (fun h => ?_)
    · refine Eg.pick [] rfl ?_
      exact pX4_readOrder_162 _  h
    · refine E_aload_n dX4_readOrder_155 rfl rfl ?_
      refine F_Vi h (fun a m e => tX4_readTimes e) dX4_readOrder_156 hm_X4_readTimes hv_X4_readTimes ln_X4_110 rfl rfl (Nat.le_of_ble_eq_true rfl) (Nat.le_of_ble_eq_true rfl) (kc' := 0) (ks' := 0) rfl rfl (fun v5 u6 h => ?_)
      refine E_if_eq (tgt := 166) h dX4_readOrder_159 (by decide) (fun h => ?_) (fun h => ?_)
      · refine E_iconst (v := 0) dX4_readOrder_166 (by decide) ?_
        refine Eg.pick [] rfl ?_
        exact pX4_readOrder_167 _ _ h
      · refine Eg.pick [] rfl ?_
        exact pX4_readOrder_162 _  h
def bX4_readOrder_57 (u : Mm) (a0 : Nat) (s0 : Int32) : Option (Int32 × Mm) := bX4_readOrder_141 u a0 s0
set_option maxRecDepth 100000 in
set_option maxHeartbeats 4000000 in
theorem pX4_readOrder_57 {r : Int32} {u' : Mm} (u : Mm) (a0 : Nat) (s0 : Int32) (h : bX4_readOrder_57 u a0 s0 = some (r, u')) : Eg MX4_readOrder 66 0 0 (some (.int r), u') 57 [(0, .ref a0)] [.int s0] u := by
  unfold bX4_readOrder_57 at h
  refine E_istore_n (l' := [(2, .int s0), (0, .ref a0)]) dX4_readOrder_57 rfl (Nat.le_of_ble_eq_true rfl) rfl ?_
  refine E_goto (tgt := 141) dX4_readOrder_58 (by decide) ?_
  refine Eg.pick [1, 0] rfl ?_
  exact pX4_readOrder_141 _ _ _ h
def bX4_readOrder_56 (u : Mm) (a0 : Nat) : Option (Int32 × Mm) := bX4_readOrder_57 u a0 0
set_option maxRecDepth 100000 in
set_option maxHeartbeats 4000000 in
theorem pX4_readOrder_56 {r : Int32} {u' : Mm} (u : Mm) (a0 : Nat) (h : bX4_readOrder_56 u a0 = some (r, u')) : Eg MX4_readOrder 66 0 0 (some (.int r), u') 56 [(0, .ref a0)] [] u := by
  unfold bX4_readOrder_56 at h
  refine E_iconst (v := 0) dX4_readOrder_56 (by decide) ?_
  refine Eg.pick [0] rfl ?_
  exact pX4_readOrder_57 _ _ _ h
def bX4_readOrder_97 (u : Mm) (a0 : Nat) (s0 : Int32) : Option (Int32 × Mm) := bX4_readOrder_141 u a0 s0
set_option maxRecDepth 100000 in
set_option maxHeartbeats 4000000 in
theorem pX4_readOrder_97 {r : Int32} {u' : Mm} (u : Mm) (a0 : Nat) (s0 : Int32) (h : bX4_readOrder_97 u a0 s0 = some (r, u')) : Eg MX4_readOrder 66 0 0 (some (.int r), u') 97 [(0, .ref a0)] [.int s0] u := by
  unfold bX4_readOrder_97 at h
  refine E_istore_n (l' := [(2, .int s0), (0, .ref a0)]) dX4_readOrder_97 rfl (Nat.le_of_ble_eq_true rfl) rfl ?_
  refine E_goto (tgt := 141) dX4_readOrder_98 (by decide) ?_
  refine Eg.pick [1, 0] rfl ?_
  exact pX4_readOrder_141 _ _ _ h
def bX4_readOrder_96 (u : Mm) (a0 : Nat) : Option (Int32 × Mm) := bX4_readOrder_97 u a0 0
set_option maxRecDepth 100000 in
set_option maxHeartbeats 4000000 in
theorem pX4_readOrder_96 {r : Int32} {u' : Mm} (u : Mm) (a0 : Nat) (h : bX4_readOrder_96 u a0 = some (r, u')) : Eg MX4_readOrder 66 0 0 (some (.int r), u') 96 [(0, .ref a0)] [] u := by
  unfold bX4_readOrder_96 at h
  refine E_iconst (v := 0) dX4_readOrder_96 (by decide) ?_
  refine Eg.pick [0] rfl ?_
  exact pX4_readOrder_97 _ _ _ h
def bX4_readOrder_126 (u : Mm) (a0 : Nat) (s0 : Int32) : Option (Int32 × Mm) := bX4_readOrder_141 u a0 s0
set_option maxRecDepth 100000 in
set_option maxHeartbeats 4000000 in
theorem pX4_readOrder_126 {r : Int32} {u' : Mm} (u : Mm) (a0 : Nat) (s0 : Int32) (h : bX4_readOrder_126 u a0 s0 = some (r, u')) : Eg MX4_readOrder 66 0 0 (some (.int r), u') 126 [(0, .ref a0)] [.int s0] u := by
  unfold bX4_readOrder_126 at h
  refine E_istore_n (l' := [(2, .int s0), (0, .ref a0)]) dX4_readOrder_126 rfl (Nat.le_of_ble_eq_true rfl) rfl ?_
  refine E_goto (tgt := 141) dX4_readOrder_127 (by decide) ?_
  refine Eg.pick [1, 0] rfl ?_
  exact pX4_readOrder_141 _ _ _ h
def bX4_readOrder_125 (u : Mm) (a0 : Nat) : Option (Int32 × Mm) := bX4_readOrder_126 u a0 0
set_option maxRecDepth 100000 in
set_option maxHeartbeats 4000000 in
theorem pX4_readOrder_125 {r : Int32} {u' : Mm} (u : Mm) (a0 : Nat) (h : bX4_readOrder_125 u a0 = some (r, u')) : Eg MX4_readOrder 66 0 0 (some (.int r), u') 125 [(0, .ref a0)] [] u := by
  unfold bX4_readOrder_125 at h
  refine E_iconst (v := 0) dX4_readOrder_125 (by decide) ?_
  refine Eg.pick [0] rfl ?_
  exact pX4_readOrder_126 _ _ _ h
def fX4_readOrder (u : Mm) (a0 : Nat) (x1 : Int32) : Option (Int32 × Mm) := (if (x1 : Int32) = 260 then oR u a0 4 (oB (fX4_readSumBehind u a0 x1 0) (fun v1 u2 => (if (v1 : Int32) = 0 then bX4_readOrder_56 u2 a0 else oR u2 a0 4 (oB (fX4_readSumBehind u2 a0 264 1) (fun v7 u8 => (if (v7 : Int32) = 0 then bX4_readOrder_56 u8 a0 else bX4_readOrder_57 u8 a0 1)))))) else (if (x1 : Int32) = 261 then oR u a0 4 (oB (fX4_readSumBehind u a0 x1 0) (fun v9 u10 => (if (v9 : Int32) = 0 then bX4_readOrder_96 u10 a0 else oR u10 a0 4 (oB (fX4_readSumBehind u10 a0 264 1) (fun v11 u12 => (if (v11 : Int32) = 0 then bX4_readOrder_96 u12 a0 else oR u12 a0 4 (oB (fX4_readSumBehind u12 a0 265 2) (fun v13 u14 => (if (v13 : Int32) = 0 then bX4_readOrder_96 u14 a0 else bX4_readOrder_97 u14 a0 1))))))))) else (if (x1 : Int32) = 262 then oR u a0 4 (oB (fX4_readSumBehind u a0 x1 0) (fun v15 u16 => (if (v15 : Int32) = 0 then bX4_readOrder_125 u16 a0 else oR u16 a0 4 (oB (fX4_readSumBehind u16 a0 266 1) (fun v17 u18 => (if (v17 : Int32) = 0 then bX4_readOrder_125 u18 a0 else bX4_readOrder_126 u18 a0 1)))))) else (if (x1 : Int32) = 263 then oR u a0 4 (oB (fX4_skip u a0 x1) (fun v19 u20 => bX4_readOrder_141 u20 a0 v19)) else oZ 0 (some (0, u))))))
set_option maxRecDepth 100000 in
set_option maxHeartbeats 4000000 in
theorem tX4_readOrder {u : Mm} {a0 : Nat} {x1 : Int32} {r : Int32} {u' : Mm} (h : fX4_readOrder u a0 x1 = some (r, u')) : Ev 66 MX4_readOrder 0 0 [.ref a0, .int x1] u (some (.int r), u') := by
  refine Ev.of (by decide +kernel) (Nat.le_of_ble_eq_true rfl) (show Eg MX4_readOrder 66 0 0 (some (.int r), u') 0 [(0, .ref a0), (1, .int x1)] [] u from ?_)
  unfold fX4_readOrder at h
  refine E_iload_n dX4_readOrder_0 rfl rfl ?_
  refine ite_cases h (fun c1_0 h => ?_) (fun c1_0 h => ?_)
  · refine E_tabIn (off := 31) (tgt := 32) dX4_readOrder_1 c1_0 (by decide +kernel) (by decide +kernel) (by decide +kernel) (by decide) ?_
    refine E_aload_n dX4_readOrder_32 rfl rfl ?_
    refine E_iload_n dX4_readOrder_33 rfl rfl ?_
    refine E_iconst (v := 0) dX4_readOrder_34 (by decide) ?_
    refine F_Vi h (fun a m e => tX4_readSumBehind e) dX4_readOrder_35 hm_X4_readSumBehind hv_X4_readSumBehind ln_X4_107 rfl rfl (Nat.le_of_ble_eq_true rfl) (Nat.le_of_ble_eq_true rfl) (kc' := 0) (ks' := 0) rfl rfl (fun v1 u2 h => ?_)
    refine E_if_eq (tgt := 56) h dX4_readOrder_38 (by decide) (fun h => ?_) (fun h => ?_)
    · refine Eg.pick [0] rfl ?_
      exact pX4_readOrder_56 _ _ h
    · refine E_aload_n dX4_readOrder_41 rfl rfl ?_
      refine E_sipush (v := 264) dX4_readOrder_42 (by decide) ?_
      refine E_iconst (v := 1) dX4_readOrder_45 (by decide) ?_
      refine F_Vi h (fun a m e => tX4_readSumBehind e) dX4_readOrder_46 hm_X4_readSumBehind hv_X4_readSumBehind ln_X4_107 rfl rfl (Nat.le_of_ble_eq_true rfl) (Nat.le_of_ble_eq_true rfl) (kc' := 0) (ks' := 0) rfl rfl (fun v7 u8 h => ?_)
      refine E_if_eq (tgt := 56) h dX4_readOrder_49 (by decide) (fun h => ?_) (fun h => ?_)
      · refine Eg.pick [0] rfl ?_
        exact pX4_readOrder_56 _ _ h
      · refine E_iconst (v := 1) dX4_readOrder_52 (by decide) ?_
        refine E_goto (tgt := 57) dX4_readOrder_53 (by decide) ?_
        refine Eg.pick [0] rfl ?_
        exact pX4_readOrder_57 _ _ _ h
  · refine ite_cases h (fun c1_1 h => ?_) (fun c1_1 h => ?_)
    · refine E_tabIn (off := 60) (tgt := 61) dX4_readOrder_1 c1_1 (by decide +kernel) (by decide +kernel) (by decide +kernel) (by decide) ?_
      refine E_aload_n dX4_readOrder_61 rfl rfl ?_
      refine E_iload_n dX4_readOrder_62 rfl rfl ?_
      refine E_iconst (v := 0) dX4_readOrder_63 (by decide) ?_
      refine F_Vi h (fun a m e => tX4_readSumBehind e) dX4_readOrder_64 hm_X4_readSumBehind hv_X4_readSumBehind ln_X4_107 rfl rfl (Nat.le_of_ble_eq_true rfl) (Nat.le_of_ble_eq_true rfl) (kc' := 0) (ks' := 0) rfl rfl (fun v9 u10 h => ?_)
      refine E_if_eq (tgt := 96) h dX4_readOrder_67 (by decide) (fun h => ?_) (fun h => ?_)
      · refine Eg.pick [0] rfl ?_
        exact pX4_readOrder_96 _ _ h
      · refine E_aload_n dX4_readOrder_70 rfl rfl ?_
        refine E_sipush (v := 264) dX4_readOrder_71 (by decide) ?_
        refine E_iconst (v := 1) dX4_readOrder_74 (by decide) ?_
        refine F_Vi h (fun a m e => tX4_readSumBehind e) dX4_readOrder_75 hm_X4_readSumBehind hv_X4_readSumBehind ln_X4_107 rfl rfl (Nat.le_of_ble_eq_true rfl) (Nat.le_of_ble_eq_true rfl) (kc' := 0) (ks' := 0) rfl rfl (fun v11 u12 h => ?_)
        refine E_if_eq (tgt := 96) h dX4_readOrder_78 (by decide) (fun h => ?_) (fun h => ?_)
        · refine Eg.pick [0] rfl ?_
          exact pX4_readOrder_96 _ _ h
        · refine E_aload_n dX4_readOrder_81 rfl rfl ?_
          refine E_sipush (v := 265) dX4_readOrder_82 (by decide) ?_
          refine E_iconst (v := 2) dX4_readOrder_85 (by decide) ?_
          refine F_Vi h (fun a m e => tX4_readSumBehind e) dX4_readOrder_86 hm_X4_readSumBehind hv_X4_readSumBehind ln_X4_107 rfl rfl (Nat.le_of_ble_eq_true rfl) (Nat.le_of_ble_eq_true rfl) (kc' := 0) (ks' := 0) rfl rfl (fun v13 u14 h => ?_)
          refine E_if_eq (tgt := 96) h dX4_readOrder_89 (by decide) (fun h => ?_) (fun h => ?_)
          · refine Eg.pick [0] rfl ?_
            exact pX4_readOrder_96 _ _ h
          · refine E_iconst (v := 1) dX4_readOrder_92 (by decide) ?_
            refine E_goto (tgt := 97) dX4_readOrder_93 (by decide) ?_
            refine Eg.pick [0] rfl ?_
            exact pX4_readOrder_97 _ _ _ h
    · refine ite_cases h (fun c1_2 h => ?_) (fun c1_2 h => ?_)
      · refine E_tabIn (off := 100) (tgt := 101) dX4_readOrder_1 c1_2 (by decide +kernel) (by decide +kernel) (by decide +kernel) (by decide) ?_
        refine E_aload_n dX4_readOrder_101 rfl rfl ?_
        refine E_iload_n dX4_readOrder_102 rfl rfl ?_
        refine E_iconst (v := 0) dX4_readOrder_103 (by decide) ?_
        refine F_Vi h (fun a m e => tX4_readSumBehind e) dX4_readOrder_104 hm_X4_readSumBehind hv_X4_readSumBehind ln_X4_107 rfl rfl (Nat.le_of_ble_eq_true rfl) (Nat.le_of_ble_eq_true rfl) (kc' := 0) (ks' := 0) rfl rfl (fun v15 u16 h => ?_)
        refine E_if_eq (tgt := 125) h dX4_readOrder_107 (by decide) (fun h => ?_) (fun h => ?_)
        · refine Eg.pick [0] rfl ?_
          exact pX4_readOrder_125 _ _ h
        · refine E_aload_n dX4_readOrder_110 rfl rfl ?_
          refine E_sipush (v := 266) dX4_readOrder_111 (by decide) ?_
          refine E_iconst (v := 1) dX4_readOrder_114 (by decide) ?_
          refine F_Vi h (fun a m e => tX4_readSumBehind e) dX4_readOrder_115 hm_X4_readSumBehind hv_X4_readSumBehind ln_X4_107 rfl rfl (Nat.le_of_ble_eq_true rfl) (Nat.le_of_ble_eq_true rfl) (kc' := 0) (ks' := 0) rfl rfl (fun v17 u18 h => ?_)
          refine E_if_eq (tgt := 125) h dX4_readOrder_118 (by decide) (fun h => ?_) (fun h => ?_)
          · refine Eg.pick [0] rfl ?_
            exact pX4_readOrder_125 _ _ h
          · refine E_iconst (v := 1) dX4_readOrder_121 (by decide) ?_
            refine E_goto (tgt := 126) dX4_readOrder_122 (by decide) ?_
            refine Eg.pick [0] rfl ?_
            exact pX4_readOrder_126 _ _ _ h
      · refine ite_cases h (fun c1_3 h => ?_) (fun c1_3 h => ?_)
        · refine E_tabIn (off := 129) (tgt := 130) dX4_readOrder_1 c1_3 (by decide +kernel) (by decide +kernel) (by decide +kernel) (by decide) ?_
          refine E_aload_n dX4_readOrder_130 rfl rfl ?_
          refine E_iload_n dX4_readOrder_131 rfl rfl ?_
          refine F_Vi h (fun a m e => tX4_skip e) dX4_readOrder_132 hm_X4_skip hv_X4_skip ln_X4_53 rfl rfl (Nat.le_of_ble_eq_true rfl) (Nat.le_of_ble_eq_true rfl) (kc' := 0) (ks' := 0) rfl rfl (fun v19 u20 h => ?_)
          refine E_istore_n (l' := [(2, .int v19), (0, .ref a0), (1, .int x1)]) dX4_readOrder_135 rfl (Nat.le_of_ble_eq_true rfl) rfl ?_
          refine E_goto (tgt := 141) dX4_readOrder_136 (by decide) ?_
          refine Eg.pick [1, 0] rfl ?_
          exact pX4_readOrder_141 _ _ _ h
        · refine E_tabD (tgt := 139) [260, 261, 262, 263] dX4_readOrder_1 (by intro k hk; simp only [List.mem_cons, List.not_mem_nil, or_false] at hk; rcases hk with rfl | rfl | rfl | rfl <;> first | exact ne_lit (by decide +kernel) c1_0 | exact ne_lit (by decide +kernel) c1_1 | exact ne_lit (by decide +kernel) c1_2 | exact ne_lit (by decide +kernel) c1_3) (by decide +kernel) (by decide) ?_
          refine E_iconst (v := 0) dX4_readOrder_139 (by decide) ?_
          exact E_zret h dX4_readOrder_140 rfl
