/-! ===== methods as functions, with their contracts (printed by program) ===== -/
def bX9_treaty_132 (u : Mm) (s0 : Int32) : Option (Int32 × Mm) := some (s0, u)
set_option maxRecDepth 100000 in
set_option maxHeartbeats 4000000 in
theorem pX9_treaty_132 {r : Int32} {u' : Mm} (u : Mm) (s0 : Int32) (h : bX9_treaty_132 u s0 = some (r, u')) : Eg MX9_treaty 2 0 0 (some (.int r), u') 132 [] [.int s0] u := by
  unfold bX9_treaty_132 at h
  exact E_iret h dX9_treaty_132 rfl
def bX9_treaty_126 (u : Mm) (x4 : Int32) : Option (Int32 × Mm) := bX9_treaty_132 u x4
set_option maxRecDepth 100000 in
set_option maxHeartbeats 4000000 in
theorem pX9_treaty_126 {r : Int32} {u' : Mm} (u : Mm) (x4 : Int32) (h : bX9_treaty_126 u x4 = some (r, u')) : Eg MX9_treaty 2 0 0 (some (.int r), u') 126 [(4, .int x4)] [] u := by
  unfold bX9_treaty_126 at h
  refine E_iload dX9_treaty_126 rfl ?_
  refine E_goto (tgt := 132) dX9_treaty_128 (by decide) ?_
  refine Eg.pick [] rfl ?_
  exact pX9_treaty_132 _ _ h
def bX9_treaty_108 (k34 : Mm → Nat → Int32 → Int32 → Int32 → Int32 → Int32 → Option (Int32 × Mm)) (u : Mm) (a0 : Nat) (x1 : Int32) (x2 : Int32) (x4 : Int32) (x5 : Int32) (s0 : Int32) : Option (Int32 × Mm) := k34 u a0 x1 x2 s0 x4 (x5 + 1)
set_option maxRecDepth 100000 in
set_option maxHeartbeats 4000000 in
theorem pX9_treaty_108 {r : Int32} {u' : Mm} {k34 : Mm → Nat → Int32 → Int32 → Int32 → Int32 → Int32 → Option (Int32 × Mm)} (hk34 : ∀ (u : Mm) (a0 : Nat) (x1 : Int32) (x2 : Int32) (x3 : Int32) (x4 : Int32) (x5 : Int32), k34 u a0 x1 x2 x3 x4 x5 = some (r, u') → Eg MX9_treaty 2 0 0 (some (.int r), u') 34 [(0, .ref a0), (1, .int x1), (2, .int x2), (3, .int x3), (4, .int x4), (5, .int x5)] [] u) (u : Mm) (a0 : Nat) (x1 : Int32) (x2 : Int32) (x4 : Int32) (x5 : Int32) (s0 : Int32) (h : bX9_treaty_108 k34 u a0 x1 x2 x4 x5 s0 = some (r, u')) : Eg MX9_treaty 2 0 0 (some (.int r), u') 108 [(0, .ref a0), (1, .int x1), (2, .int x2), (4, .int x4), (5, .int x5)] [.int s0] u := by
  unfold bX9_treaty_108 at h
  refine E_istore_n (l' := [(3, .int s0), (0, .ref a0), (1, .int x1), (2, .int x2), (4, .int x4), (5, .int x5)]) dX9_treaty_108 rfl (Nat.le_of_ble_eq_true rfl) rfl ?_
  refine E_iinc (j := 5) (v := x5 + 1) (l' := [(5, .int (x5 + 1)), (3, .int s0), (0, .ref a0), (1, .int x1), (2, .int x2), (4, .int x4)]) dX9_treaty_109 rfl (addI (by decide)) (Nat.le_of_ble_eq_true rfl) rfl ?_
  refine E_goto (tgt := 34) dX9_treaty_112 (by decide) ?_
  refine Eg.pick [2, 3, 4, 1, 5, 0] rfl ?_
  exact hk34 _ _ _ _ _ _ _ h
def bX9_treaty_92 (k34 : Mm → Nat → Int32 → Int32 → Int32 → Int32 → Int32 → Option (Int32 × Mm)) (u : Mm) (a0 : Nat) (x1 : Int32) (x2 : Int32) (x3 : Int32) (x5 : Int32) (x6 : Int32) (s0 : Int32) : Option (Int32 × Mm) := (if (x6 : Int32) = 0 then bX9_treaty_108 k34 u a0 x1 x2 s0 x5 x3 else oB (fX9_ones u x5) (fun v8 u9 => bX9_treaty_108 k34 u9 a0 x1 x2 s0 x5 v8))
set_option maxRecDepth 100000 in
set_option maxHeartbeats 4000000 in
theorem pX9_treaty_92 {r : Int32} {u' : Mm} {k34 : Mm → Nat → Int32 → Int32 → Int32 → Int32 → Int32 → Option (Int32 × Mm)} (hk34 : ∀ (u : Mm) (a0 : Nat) (x1 : Int32) (x2 : Int32) (x3 : Int32) (x4 : Int32) (x5 : Int32), k34 u a0 x1 x2 x3 x4 x5 = some (r, u') → Eg MX9_treaty 2 0 0 (some (.int r), u') 34 [(0, .ref a0), (1, .int x1), (2, .int x2), (3, .int x3), (4, .int x4), (5, .int x5)] [] u) (u : Mm) (a0 : Nat) (x1 : Int32) (x2 : Int32) (x3 : Int32) (x5 : Int32) (x6 : Int32) (s0 : Int32) (h : bX9_treaty_92 k34 u a0 x1 x2 x3 x5 x6 s0 = some (r, u')) : Eg MX9_treaty 2 0 0 (some (.int r), u') 92 [(0, .ref a0), (1, .int x1), (2, .int x2), (3, .int x3), (5, .int x5), (6, .int x6)] [.int s0] u := by
  unfold bX9_treaty_92 at h
  refine E_istore (l' := [(4, .int s0), (0, .ref a0), (1, .int x1), (2, .int x2), (3, .int x3), (5, .int x5), (6, .int x6)]) dX9_treaty_92 (Nat.le_of_ble_eq_true rfl) rfl ?_
  refine E_iload dX9_treaty_94 rfl ?_
  refine E_if_eq (tgt := 107) h dX9_treaty_96 (by decide) (fun h => ?_) (fun h => ?_)
  · refine E_iload_n dX9_treaty_107 rfl rfl ?_
    refine Eg.pick [1, 2, 3, 0, 5] rfl ?_
    exact pX9_treaty_108 hk34 _ _ _ _ _ _ _ h
  · refine E_iload dX9_treaty_99 rfl ?_
    refine F_Si h (fun a m e => tX9_ones e) dX9_treaty_101 hm_X9_ones hs_X9_ones ln_X9_446 rfl rfl (Nat.le_of_ble_eq_true rfl) (Nat.le_of_ble_eq_true rfl) (kc' := 0) (ks' := 0) rfl rfl (fun v8 u9 h => ?_)
    refine E_goto (tgt := 108) dX9_treaty_104 (by decide) ?_
    refine Eg.pick [1, 2, 3, 0, 5] rfl ?_
    exact pX9_treaty_108 hk34 _ _ _ _ _ _ _ h
def bX9_treaty_78 (k34 : Mm → Nat → Int32 → Int32 → Int32 → Int32 → Int32 → Option (Int32 × Mm)) (u : Mm) (a0 : Nat) (x1 : Int32) (x2 : Int32) (x3 : Int32) (x4 : Int32) (x5 : Int32) (s0 : Int32) : Option (Int32 × Mm) := (if (s0 : Int32) = 0 then bX9_treaty_92 k34 u a0 x1 x2 x3 x5 s0 x4 else bX9_treaty_92 k34 u a0 x1 x2 x3 x5 s0 x5)
set_option maxRecDepth 100000 in
set_option maxHeartbeats 4000000 in
theorem pX9_treaty_78 {r : Int32} {u' : Mm} {k34 : Mm → Nat → Int32 → Int32 → Int32 → Int32 → Int32 → Option (Int32 × Mm)} (hk34 : ∀ (u : Mm) (a0 : Nat) (x1 : Int32) (x2 : Int32) (x3 : Int32) (x4 : Int32) (x5 : Int32), k34 u a0 x1 x2 x3 x4 x5 = some (r, u') → Eg MX9_treaty 2 0 0 (some (.int r), u') 34 [(0, .ref a0), (1, .int x1), (2, .int x2), (3, .int x3), (4, .int x4), (5, .int x5)] [] u) (u : Mm) (a0 : Nat) (x1 : Int32) (x2 : Int32) (x3 : Int32) (x4 : Int32) (x5 : Int32) (s0 : Int32) (h : bX9_treaty_78 k34 u a0 x1 x2 x3 x4 x5 s0 = some (r, u')) : Eg MX9_treaty 2 0 0 (some (.int r), u') 78 [(0, .ref a0), (1, .int x1), (2, .int x2), (3, .int x3), (4, .int x4), (5, .int x5)] [.int s0] u := by
  unfold bX9_treaty_78 at h
  refine E_istore (l' := [(6, .int s0), (0, .ref a0), (1, .int x1), (2, .int x2), (3, .int x3), (4, .int x4), (5, .int x5)]) dX9_treaty_78 (Nat.le_of_ble_eq_true rfl) rfl ?_
  refine E_iload dX9_treaty_80 rfl ?_
  refine E_if_eq (tgt := 90) h dX9_treaty_82 (by decide) (fun h => ?_) (fun h => ?_)
  · refine E_iload dX9_treaty_90 rfl ?_
    refine Eg.pick [1, 2, 3, 4, 6, 0] rfl ?_
    exact pX9_treaty_92 hk34 _ _ _ _ _ _ _ _ h
  · refine E_iload dX9_treaty_85 rfl ?_
    refine E_goto (tgt := 92) dX9_treaty_87 (by decide) ?_
    refine Eg.pick [1, 2, 3, 4, 6, 0] rfl ?_
    exact pX9_treaty_92 hk34 _ _ _ _ _ _ _ _ h
def bX9_treaty_77 (k34 : Mm → Nat → Int32 → Int32 → Int32 → Int32 → Int32 → Option (Int32 × Mm)) (u : Mm) (a0 : Nat) (x1 : Int32) (x2 : Int32) (x3 : Int32) (x4 : Int32) (x5 : Int32) : Option (Int32 × Mm) := bX9_treaty_78 k34 u a0 x1 x2 x3 x4 x5 0
set_option maxRecDepth 100000 in
set_option maxHeartbeats 4000000 in
theorem pX9_treaty_77 {r : Int32} {u' : Mm} {k34 : Mm → Nat → Int32 → Int32 → Int32 → Int32 → Int32 → Option (Int32 × Mm)} (hk34 : ∀ (u : Mm) (a0 : Nat) (x1 : Int32) (x2 : Int32) (x3 : Int32) (x4 : Int32) (x5 : Int32), k34 u a0 x1 x2 x3 x4 x5 = some (r, u') → Eg MX9_treaty 2 0 0 (some (.int r), u') 34 [(0, .ref a0), (1, .int x1), (2, .int x2), (3, .int x3), (4, .int x4), (5, .int x5)] [] u) (u : Mm) (a0 : Nat) (x1 : Int32) (x2 : Int32) (x3 : Int32) (x4 : Int32) (x5 : Int32) (h : bX9_treaty_77 k34 u a0 x1 x2 x3 x4 x5 = some (r, u')) : Eg MX9_treaty 2 0 0 (some (.int r), u') 77 [(0, .ref a0), (1, .int x1), (2, .int x2), (3, .int x3), (4, .int x4), (5, .int x5)] [] u := by
  unfold bX9_treaty_77 at h
  refine E_iconst (v := 0) dX9_treaty_77 (by decide) ?_
  refine Eg.pick [0, 1, 2, 3, 4, 5] rfl ?_
  exact pX9_treaty_78 hk34 _ _ _ _ _ _ _ _ h
def bX9_treaty_34 (k34 : Mm → Nat → Int32 → Int32 → Int32 → Int32 → Int32 → Option (Int32 × Mm)) (u : Mm) (a0 : Nat) (x1 : Int32) (x2 : Int32) (x3 : Int32) (x4 : Int32) (x5 : Int32) : Option (Int32 × Mm) := (if (256 : Int32) ≤ x5 then (if (x4 : Int32) = ((-1)) then bX9_treaty_126 u x4 else (if (x1 : Int32) = 1 then bX9_treaty_126 u x4 else bX9_treaty_132 u x3)) else oB (fX9_ones u x5) (fun v6 u7 => (if (x3 : Int32) ≤ v6 then bX9_treaty_77 k34 u7 a0 x1 x2 x3 x4 x5 else oR u7 a0 9 (oB (fX9_worthOf u7 a0 x5 0) (fun v10 u11 => (if (v10 : Int32) < x2 then bX9_treaty_77 k34 u11 a0 x1 x2 x3 x4 x5 else oR u11 a0 9 (oB (fX9_worthOf u11 a0 x5 1) (fun v12 u13 => (if (v12 : Int32) < x2 then bX9_treaty_77 k34 u13 a0 x1 x2 x3 x4 x5 else bX9_treaty_78 k34 u13 a0 x1 x2 x3 x4 x5 1)))))))))
set_option maxRecDepth 100000 in
set_option maxHeartbeats 4000000 in
theorem pX9_treaty_34 {r : Int32} {u' : Mm} {k34 : Mm → Nat → Int32 → Int32 → Int32 → Int32 → Int32 → Option (Int32 × Mm)} (hk34 : ∀ (u : Mm) (a0 : Nat) (x1 : Int32) (x2 : Int32) (x3 : Int32) (x4 : Int32) (x5 : Int32), k34 u a0 x1 x2 x3 x4 x5 = some (r, u') → Eg MX9_treaty 2 0 0 (some (.int r), u') 34 [(0, .ref a0), (1, .int x1), (2, .int x2), (3, .int x3), (4, .int x4), (5, .int x5)] [] u) (u : Mm) (a0 : Nat) (x1 : Int32) (x2 : Int32) (x3 : Int32) (x4 : Int32) (x5 : Int32) (h : bX9_treaty_34 k34 u a0 x1 x2 x3 x4 x5 = some (r, u')) : Eg MX9_treaty 2 0 0 (some (.int r), u') 34 [(0, .ref a0), (1, .int x1), (2, .int x2), (3, .int x3), (4, .int x4), (5, .int x5)] [] u := by
  unfold bX9_treaty_34 at h
  refine E_iload dX9_treaty_34 rfl ?_
  refine E_sipush (v := 256) dX9_treaty_36 (by decide) ?_
  refine E_ic_ge (tgt := 115) h dX9_treaty_39 (by decide) (fun h => ?_) (fun h => ?_)
  · refine E_iload dX9_treaty_115 rfl ?_
    refine E_iconst (v := (-1)) dX9_treaty_117 (by decide) ?_
    refine E_ic_eq (tgt := 126) h dX9_treaty_118 (by decide) (fun h => ?_) (fun h => ?_)
    · refine Eg.pick [4] rfl ?_
      exact pX9_treaty_126 _ _ h
    · refine E_iload_n dX9_treaty_121 rfl rfl ?_
      refine E_iconst (v := 1) dX9_treaty_122 (by decide) ?_
      refine E_ic_ne (tgt := 131) h dX9_treaty_123 (by decide) (fun h => ?_) (fun h => ?_)
      · refine E_iload_n dX9_treaty_131 rfl rfl ?_
        refine Eg.pick [] rfl ?_
        exact pX9_treaty_132 _ _ h
      · refine Eg.pick [4] rfl ?_
        exact pX9_treaty_126 _ _ h
  · refine E_iload dX9_treaty_42 rfl ?_
    refine F_Si h (fun a m e => tX9_ones e) dX9_treaty_44 hm_X9_ones hs_X9_ones ln_X9_446 rfl rfl (Nat.le_of_ble_eq_true rfl) (Nat.le_of_ble_eq_true rfl) (kc' := 0) (ks' := 0) rfl rfl (fun v6 u7 h => ?_)
    refine E_iload_n dX9_treaty_47 rfl rfl ?_
    refine E_ic_ge (tgt := 77) h dX9_treaty_48 (by decide) (fun h => ?_) (fun h => ?_)
    · refine Eg.pick [0, 1, 2, 3, 4, 5] rfl ?_
      exact pX9_treaty_77 hk34 _ _ _ _ _ _ _ h
    · refine E_aload_n dX9_treaty_51 rfl rfl ?_
      refine E_iload dX9_treaty_52 rfl ?_
      refine E_iconst (v := 0) dX9_treaty_54 (by decide) ?_
      refine F_Vi h (fun a m e => tX9_worthOf e) dX9_treaty_55 hm_X9_worthOf hv_X9_worthOf ln_X9_449 rfl rfl (Nat.le_of_ble_eq_true rfl) (Nat.le_of_ble_eq_true rfl) (kc' := 0) (ks' := 0) rfl rfl (fun v10 u11 h => ?_)
      refine E_iload_n dX9_treaty_58 rfl rfl ?_
      refine E_ic_lt (tgt := 77) h dX9_treaty_59 (by decide) (fun h => ?_) (fun h => ?_)
      · refine Eg.pick [0, 1, 2, 3, 4, 5] rfl ?_
        exact pX9_treaty_77 hk34 _ _ _ _ _ _ _ h
      · refine E_aload_n dX9_treaty_62 rfl rfl ?_
        refine E_iload dX9_treaty_63 rfl ?_
        refine E_iconst (v := 1) dX9_treaty_65 (by decide) ?_
        refine F_Vi h (fun a m e => tX9_worthOf e) dX9_treaty_66 hm_X9_worthOf hv_X9_worthOf ln_X9_449 rfl rfl (Nat.le_of_ble_eq_true rfl) (Nat.le_of_ble_eq_true rfl) (kc' := 0) (ks' := 0) rfl rfl (fun v12 u13 h => ?_)
        refine E_iload_n dX9_treaty_69 rfl rfl ?_
        refine E_ic_lt (tgt := 77) h dX9_treaty_70 (by decide) (fun h => ?_) (fun h => ?_)
        · refine Eg.pick [0, 1, 2, 3, 4, 5] rfl ?_
          exact pX9_treaty_77 hk34 _ _ _ _ _ _ _ h
        · refine E_iconst (v := 1) dX9_treaty_73 (by decide) ?_
          refine E_goto (tgt := 78) dX9_treaty_74 (by decide) ?_
          refine Eg.pick [0, 1, 2, 3, 4, 5] rfl ?_
          exact pX9_treaty_78 hk34 _ _ _ _ _ _ _ _ h
def rX9_treaty_34 : Nat → Mm → Nat → Int32 → Int32 → Int32 → Int32 → Int32 → Option (Int32 × Mm)
  | 0, _, _, _, _, _, _, _ => none
  | n + 1, u, a0, x1, x2, x3, x4, x5 => bX9_treaty_34 (rX9_treaty_34 n) u a0 x1 x2 x3 x4 x5
theorem prX9_treaty_34 {r : Int32} {u' : Mm} : ∀ (n : Nat) (u : Mm) (a0 : Nat) (x1 : Int32) (x2 : Int32) (x3 : Int32) (x4 : Int32) (x5 : Int32), rX9_treaty_34 n u a0 x1 x2 x3 x4 x5 = some (r, u') → Eg MX9_treaty 2 0 0 (some (.int r), u') 34 [(0, .ref a0), (1, .int x1), (2, .int x2), (3, .int x3), (4, .int x4), (5, .int x5)] [] u
  | 0, _, _, _, _, _, _, _, h => by cases h
  | n + 1, u, a0, x1, x2, x3, x4, x5, h => pX9_treaty_34 (prX9_treaty_34 n) u a0 x1 x2 x3 x4 x5 h
def fX9_treaty (u : Mm) (a0 : Nat) (x1 : Int32) : Option (Int32 × Mm) := oK u a0 9 54 (oU (wI u a0 (upd (mI u a0) 0 0)) (fun u1 => oB (fX9_in u1 (Int32.toInt64 x1) 0 1) (fun v2 u3 => (if (v2 : Int32) = 0 then some ((-1), u3) else oK u3 a0 9 54 (oNn (mR u3 a0 3) (fun e4 => oA u3 e4 10 5 (oI (mI u3 e4 (Int32.toNatClampNeg 5)) (fun v5 => rX9_treaty_34 hwF u3 a0 x1 v5 100000000 ((-1)) 0))))))))
set_option maxRecDepth 100000 in
set_option maxHeartbeats 4000000 in
theorem tX9_treaty {u : Mm} {a0 : Nat} {x1 : Int32} {r : Int32} {u' : Mm} (h : fX9_treaty u a0 x1 = some (r, u')) : Ev 2 MX9_treaty 0 0 [.ref a0, .int x1] u (some (.int r), u') := by
  refine Ev.of (by decide +kernel) (Nat.le_of_ble_eq_true rfl) (show Eg MX9_treaty 2 0 0 (some (.int r), u') 0 [(0, .ref a0), (1, .int x1)] [] u from ?_)
  unfold fX9_treaty at h
  refine E_aload_n dX9_treaty_0 rfl rfl ?_
  refine E_iconst (v := 0) dX9_treaty_1 (by decide) ?_
  refine E_putI h dX9_treaty_2 cf9 lk_X9_134 (by decide) (Or.inl rfl) rfl (fun h => ?_)
  refine E_oU h (fun u1 h => ?_)
  refine E_iload_n dX9_treaty_5 rfl rfl ?_
  refine E_i2l dX9_treaty_6 ?_
  refine E_lconst (v := 0) dX9_treaty_7 (by decide) ?_
  refine E_lconst (v := 1) dX9_treaty_8 (by decide) ?_
  refine F_Si h (fun a m e => tX9_in e) dX9_treaty_9 hm_X9_in hs_X9_in ln_X9_154 rfl rfl (Nat.le_of_ble_eq_true rfl) (Nat.le_of_ble_eq_true rfl) (kc' := 0) (ks' := 0) rfl rfl (fun v2 u3 h => ?_)
  refine E_if_ne (tgt := 17) h dX9_treaty_12 (by decide) (fun h => ?_) (fun h => ?_)
  · refine E_aload_n dX9_treaty_17 rfl rfl ?_
    refine E_getA h dX9_treaty_18 cf9 lk_X9_13 (by decide) (fun _ _ _ => rfl) (fun e4 h => ?_)
    refine E_iconst (v := 5) dX9_treaty_21 (by decide) ?_
    refine E_iald h dX9_treaty_22 (fun h => ?_)
    refine E_oI h (fun v5 h => ?_)
    refine E_istore_n (l' := [(2, .int v5), (0, .ref a0), (1, .int x1)]) dX9_treaty_23 rfl (Nat.le_of_ble_eq_true rfl) rfl ?_
    refine E_ldcw dX9_treaty_24 rfl cn_X9_445 ?_
    refine E_istore_n (l' := [(3, .int 100000000), (2, .int v5), (0, .ref a0), (1, .int x1)]) dX9_treaty_27 rfl (Nat.le_of_ble_eq_true rfl) rfl ?_
    refine E_iconst (v := (-1)) dX9_treaty_28 (by decide) ?_
    refine E_istore (l' := [(4, .int ((-1))), (3, .int 100000000), (2, .int v5), (0, .ref a0), (1, .int x1)]) dX9_treaty_29 (Nat.le_of_ble_eq_true rfl) rfl ?_
    refine E_iconst (v := 0) dX9_treaty_31 (by decide) ?_
    refine E_istore (l' := [(5, .int 0), (4, .int ((-1))), (3, .int 100000000), (2, .int v5), (0, .ref a0), (1, .int x1)]) dX9_treaty_32 (Nat.le_of_ble_eq_true rfl) rfl ?_
    refine Eg.pick [4, 5, 3, 2, 1, 0] rfl ?_
    exact prX9_treaty_34 _ _ _ _ _ _ _ _ h
  · refine E_iconst (v := (-1)) dX9_treaty_15 (by decide) ?_
    exact E_iret h dX9_treaty_16 rfl
def bX9_hear_22 (u : Mm) (a0 : Nat) : Option (Int32 × Mm) := oR u a0 9 (oB (fX9_answer u a0 ((-1))) (fun v4 u5 => some (v4, u5)))
set_option maxRecDepth 100000 in
set_option maxHeartbeats 4000000 in
theorem pX9_hear_22 {r : Int32} {u' : Mm} (u : Mm) (a0 : Nat) (h : bX9_hear_22 u a0 = some (r, u')) : Eg MX9_hear 2 0 0 (some (.int r), u') 22 [(0, .ref a0)] [] u := by
  unfold bX9_hear_22 at h
  refine E_aload_n dX9_hear_22 rfl rfl ?_
  refine E_iconst (v := (-1)) dX9_hear_23 (by decide) ?_
  refine F_Vi h (fun a m e => tX9_answer e) dX9_hear_24 hm_X9_answer hv_X9_answer ln_X9_143 rfl rfl (Nat.le_of_ble_eq_true rfl) (Nat.le_of_ble_eq_true rfl) (kc' := 0) (ks' := 0) rfl rfl (fun v4 u5 h => ?_)
  exact E_iret h dX9_hear_27 rfl
def fX9_hear (u : Mm) (a0 : Nat) (x1 : Int32) (x2 : Int32) : Option (Int32 × Mm) := oK u a0 9 54 (oU (wI u a0 (upd (mI u a0) 0 0)) (fun u1 => oB (fX9_isEight u1 x1) (fun v2 u3 => (if (v2 : Int32) = 0 then bX9_hear_22 u3 a0 else oB (fX9_in u3 (Int32.toInt64 x2) 0 1) (fun v6 u7 => (if (v6 : Int32) = 0 then bX9_hear_22 u7 a0 else oK u7 a0 9 54 (oNn (mR u7 a0 3) (fun e8 => oA u7 e8 10 0 (oI (mI u7 e8 (Int32.toNatClampNeg 0)) (fun v9 => (if (v9 : Int32) = 8 then oR u7 a0 9 (oB (fX9_answer u7 a0 ((-5))) (fun v19 u20 => some (v19, u20))) else oK u7 a0 9 54 (oNn (mR u7 a0 3) (fun e10 => oA u7 e10 10 ((99 : Int32) + ((2 : Int32) * v9)) (oU (wI u7 e10 (upd (mI u7 e10) (Int32.toNatClampNeg ((99 : Int32) + ((2 : Int32) * v9))) x1)) (fun u11 => oK u11 a0 9 54 (oNn (mR u11 a0 3) (fun e12 => oA u11 e12 10 (((99 : Int32) + ((2 : Int32) * v9)) + 1) (oU (wI u11 e12 (upd (mI u11 e12) (Int32.toNatClampNeg (((99 : Int32) + ((2 : Int32) * v9)) + 1)) x2)) (fun u13 => oK u13 a0 9 54 (oNn (mR u13 a0 3) (fun e14 => oA u13 e14 10 0 (oI (mI u13 e14 (Int32.toNatClampNeg 0)) (fun v15 => oA u13 e14 10 0 (oU (wI u13 e14 (upd (mI u13 e14) (Int32.toNatClampNeg 0) (v15 + 1))) (fun u16 => oR u16 a0 9 (oB (fX9_answer u16 a0 (v9 + 1)) (fun v17 u18 => some (v17, u18))))))))))))))))))))))))))))
set_option maxRecDepth 100000 in
set_option maxHeartbeats 4000000 in
theorem tX9_hear {u : Mm} {a0 : Nat} {x1 : Int32} {x2 : Int32} {r : Int32} {u' : Mm} (h : fX9_hear u a0 x1 x2 = some (r, u')) : Ev 2 MX9_hear 0 0 [.ref a0, .int x1, .int x2] u (some (.int r), u') := by
  refine Ev.of (by decide +kernel) (Nat.le_of_ble_eq_true rfl) (show Eg MX9_hear 2 0 0 (some (.int r), u') 0 [(0, .ref a0), (1, .int x1), (2, .int x2)] [] u from ?_)
  unfold fX9_hear at h
  refine E_aload_n dX9_hear_0 rfl rfl ?_
  refine E_iconst (v := 0) dX9_hear_1 (by decide) ?_
  refine E_putI h dX9_hear_2 cf9 lk_X9_134 (by decide) (Or.inl rfl) rfl (fun h => ?_)
  refine E_oU h (fun u1 h => ?_)
  refine E_iload_n dX9_hear_5 rfl rfl ?_
  refine F_Si h (fun a m e => tX9_isEight e) dX9_hear_6 hm_X9_isEight hs_X9_isEight ln_X9_171 rfl rfl (Nat.le_of_ble_eq_true rfl) (Nat.le_of_ble_eq_true rfl) (kc' := 0) (ks' := 0) rfl rfl (fun v2 u3 h => ?_)
  refine E_if_eq (tgt := 22) h dX9_hear_9 (by decide) (fun h => ?_) (fun h => ?_)
  · refine Eg.pick [0] rfl ?_
    exact pX9_hear_22 _ _ h
  · refine E_iload_n dX9_hear_12 rfl rfl ?_
    refine E_i2l dX9_hear_13 ?_
    refine E_lconst (v := 0) dX9_hear_14 (by decide) ?_
    refine E_lconst (v := 1) dX9_hear_15 (by decide) ?_
    refine F_Si h (fun a m e => tX9_in e) dX9_hear_16 hm_X9_in hs_X9_in ln_X9_154 rfl rfl (Nat.le_of_ble_eq_true rfl) (Nat.le_of_ble_eq_true rfl) (kc' := 0) (ks' := 0) rfl rfl (fun v6 u7 h => ?_)
    refine E_if_ne (tgt := 28) h dX9_hear_19 (by decide) (fun h => ?_) (fun h => ?_)
    · refine E_aload_n dX9_hear_28 rfl rfl ?_
      refine E_getA h dX9_hear_29 cf9 lk_X9_13 (by decide) (fun _ _ _ => rfl) (fun e8 h => ?_)
      refine E_iconst (v := 0) dX9_hear_32 (by decide) ?_
      refine E_iald h dX9_hear_33 (fun h => ?_)
      refine E_oI h (fun v9 h => ?_)
      refine E_istore_n (l' := [(3, .int v9), (0, .ref a0), (1, .int x1), (2, .int x2)]) dX9_hear_34 rfl (Nat.le_of_ble_eq_true rfl) rfl ?_
      refine E_iload_n dX9_hear_35 rfl rfl ?_
      refine E_bipush (v := 8) dX9_hear_36 (by decide) ?_
      refine E_ic_ne (tgt := 48) h dX9_hear_38 (by decide) (fun h => ?_) (fun h => ?_)
      · refine E_aload_n dX9_hear_48 rfl rfl ?_
        refine E_getA h dX9_hear_49 cf9 lk_X9_13 (by decide) (fun _ _ _ => rfl) (fun e10 h => ?_)
        refine E_bipush (v := 99) dX9_hear_52 (by decide) ?_
        refine E_iconst (v := 2) dX9_hear_54 (by decide) ?_
        refine E_iload_n dX9_hear_55 rfl rfl ?_
        refine E_imul dX9_hear_56 ?_
        refine E_iadd dX9_hear_57 ?_
        refine E_iload_n dX9_hear_58 rfl rfl ?_
        refine E_iast h dX9_hear_59 (fun h => ?_)
        refine E_oU h (fun u11 h => ?_)
        refine E_aload_n dX9_hear_60 rfl rfl ?_
        refine E_getA h dX9_hear_61 cf9 lk_X9_13 (by decide) (fun _ _ _ => rfl) (fun e12 h => ?_)
        refine E_bipush (v := 99) dX9_hear_64 (by decide) ?_
        refine E_iconst (v := 2) dX9_hear_66 (by decide) ?_
        refine E_iload_n dX9_hear_67 rfl rfl ?_
        refine E_imul dX9_hear_68 ?_
        refine E_iadd dX9_hear_69 ?_
        refine E_iconst (v := 1) dX9_hear_70 (by decide) ?_
        refine E_iadd dX9_hear_71 ?_
        refine E_iload_n dX9_hear_72 rfl rfl ?_
        refine E_iast h dX9_hear_73 (fun h => ?_)
        refine E_oU h (fun u13 h => ?_)
        refine E_aload_n dX9_hear_74 rfl rfl ?_
        refine E_getA h dX9_hear_75 cf9 lk_X9_13 (by decide) (fun _ _ _ => rfl) (fun e14 h => ?_)
        refine E_iconst (v := 0) dX9_hear_78 (by decide) ?_
        refine E_dup2 dX9_hear_79 rfl rfl ?_
        refine E_iald h dX9_hear_80 (fun h => ?_)
        refine E_oI h (fun v15 h => ?_)
        refine E_iconst (v := 1) dX9_hear_81 (by decide) ?_
        refine E_iadd dX9_hear_82 ?_
        refine E_iast h dX9_hear_83 (fun h => ?_)
        refine E_oU h (fun u16 h => ?_)
        refine E_aload_n dX9_hear_84 rfl rfl ?_
        refine E_iload_n dX9_hear_85 rfl rfl ?_
        refine E_iconst (v := 1) dX9_hear_86 (by decide) ?_
        refine E_iadd dX9_hear_87 ?_
        refine F_Vi h (fun a m e => tX9_answer e) dX9_hear_88 hm_X9_answer hv_X9_answer ln_X9_143 rfl rfl (Nat.le_of_ble_eq_true rfl) (Nat.le_of_ble_eq_true rfl) (kc' := 0) (ks' := 0) rfl rfl (fun v17 u18 h => ?_)
        exact E_iret h dX9_hear_91 rfl
      · refine E_aload_n dX9_hear_41 rfl rfl ?_
        refine E_bipush (v := (-5)) dX9_hear_42 (by decide) ?_
        refine F_Vi h (fun a m e => tX9_answer e) dX9_hear_44 hm_X9_answer hv_X9_answer ln_X9_143 rfl rfl (Nat.le_of_ble_eq_true rfl) (Nat.le_of_ble_eq_true rfl) (kc' := 0) (ks' := 0) rfl rfl (fun v19 u20 h => ?_)
        exact E_iret h dX9_hear_47 rfl
    · refine Eg.pick [0] rfl ?_
      exact pX9_hear_22 _ _ h
def bX9_tell_26 (u : Mm) (a0 : Nat) : Option (Int32 × Mm) := oR u a0 9 (oB (fX9_answer u a0 ((-1))) (fun v4 u5 => some (v4, u5)))
set_option maxRecDepth 100000 in
set_option maxHeartbeats 4000000 in
theorem pX9_tell_26 {r : Int32} {u' : Mm} (u : Mm) (a0 : Nat) (h : bX9_tell_26 u a0 = some (r, u')) : Eg MX9_tell 2 0 0 (some (.int r), u') 26 [(0, .ref a0)] [] u := by
  unfold bX9_tell_26 at h
  refine E_aload_n dX9_tell_26 rfl rfl ?_
  refine E_iconst (v := (-1)) dX9_tell_27 (by decide) ?_
  refine F_Vi h (fun a m e => tX9_answer e) dX9_tell_28 hm_X9_answer hv_X9_answer ln_X9_143 rfl rfl (Nat.le_of_ble_eq_true rfl) (Nat.le_of_ble_eq_true rfl) (kc' := 0) (ks' := 0) rfl rfl (fun v4 u5 h => ?_)
  exact E_iret h dX9_tell_31 rfl
def fX9_tell (u : Mm) (a0 : Nat) (x1 : Int32) (x2 : Int32) : Option (Int32 × Mm) := oK u a0 9 54 (oU (wI u a0 (upd (mI u a0) 0 0)) (fun u1 => oB (fX9_isSide u1 x1) (fun v2 u3 => (if (v2 : Int32) = 0 then bX9_tell_26 u3 a0 else oB (fX9_in u3 (Int32.toInt64 x2) ((-20)) 20) (fun v6 u7 => (if (v6 : Int32) = 0 then bX9_tell_26 u7 a0 else oK u7 a0 9 54 (oNn (mR u7 a0 3) (fun e8 => oA u7 e8 10 1 (oI (mI u7 e8 (Int32.toNatClampNeg 1)) (fun v9 => (if (v9 : Int32) = 6 then oR u7 a0 9 (oB (fX9_answer u7 a0 ((-5))) (fun v19 u20 => some (v19, u20))) else oK u7 a0 9 54 (oNn (mR u7 a0 3) (fun e10 => oA u7 e10 10 ((115 : Int32) + ((2 : Int32) * v9)) (oU (wI u7 e10 (upd (mI u7 e10) (Int32.toNatClampNeg ((115 : Int32) + ((2 : Int32) * v9))) x1)) (fun u11 => oK u11 a0 9 54 (oNn (mR u11 a0 3) (fun e12 => oA u11 e12 10 (((115 : Int32) + ((2 : Int32) * v9)) + 1) (oU (wI u11 e12 (upd (mI u11 e12) (Int32.toNatClampNeg (((115 : Int32) + ((2 : Int32) * v9)) + 1)) x2)) (fun u13 => oK u13 a0 9 54 (oNn (mR u13 a0 3) (fun e14 => oA u13 e14 10 1 (oI (mI u13 e14 (Int32.toNatClampNeg 1)) (fun v15 => oA u13 e14 10 1 (oU (wI u13 e14 (upd (mI u13 e14) (Int32.toNatClampNeg 1) (v15 + 1))) (fun u16 => oR u16 a0 9 (oB (fX9_answer u16 a0 (v9 + 1)) (fun v17 u18 => some (v17, u18))))))))))))))))))))))))))))
set_option maxRecDepth 100000 in
set_option maxHeartbeats 4000000 in
theorem tX9_tell {u : Mm} {a0 : Nat} {x1 : Int32} {x2 : Int32} {r : Int32} {u' : Mm} (h : fX9_tell u a0 x1 x2 = some (r, u')) : Ev 2 MX9_tell 0 0 [.ref a0, .int x1, .int x2] u (some (.int r), u') := by
  refine Ev.of (by decide +kernel) (Nat.le_of_ble_eq_true rfl) (show Eg MX9_tell 2 0 0 (some (.int r), u') 0 [(0, .ref a0), (1, .int x1), (2, .int x2)] [] u from ?_)
  unfold fX9_tell at h
  refine E_aload_n dX9_tell_0 rfl rfl ?_
  refine E_iconst (v := 0) dX9_tell_1 (by decide) ?_
  refine E_putI h dX9_tell_2 cf9 lk_X9_134 (by decide) (Or.inl rfl) rfl (fun h => ?_)
  refine E_oU h (fun u1 h => ?_)
  refine E_iload_n dX9_tell_5 rfl rfl ?_
  refine F_Si h (fun a m e => tX9_isSide e) dX9_tell_6 hm_X9_isSide hs_X9_isSide ln_X9_167 rfl rfl (Nat.le_of_ble_eq_true rfl) (Nat.le_of_ble_eq_true rfl) (kc' := 0) (ks' := 0) rfl rfl (fun v2 u3 h => ?_)
  refine E_if_eq (tgt := 26) h dX9_tell_9 (by decide) (fun h => ?_) (fun h => ?_)
  · refine Eg.pick [0] rfl ?_
    exact pX9_tell_26 _ _ h
  · refine E_iload_n dX9_tell_12 rfl rfl ?_
    refine E_i2l dX9_tell_13 ?_
    refine E_ldc2 dX9_tell_14 rfl cn_X9_192 ?_
    refine E_ldc2 dX9_tell_17 rfl cn_X9_194 ?_
    refine F_Si h (fun a m e => tX9_in e) dX9_tell_20 hm_X9_in hs_X9_in ln_X9_154 rfl rfl (Nat.le_of_ble_eq_true rfl) (Nat.le_of_ble_eq_true rfl) (kc' := 0) (ks' := 0) rfl rfl (fun v6 u7 h => ?_)
    refine E_if_ne (tgt := 32) h dX9_tell_23 (by decide) (fun h => ?_) (fun h => ?_)
    · refine E_aload_n dX9_tell_32 rfl rfl ?_
      refine E_getA h dX9_tell_33 cf9 lk_X9_13 (by decide) (fun _ _ _ => rfl) (fun e8 h => ?_)
      refine E_iconst (v := 1) dX9_tell_36 (by decide) ?_
      refine E_iald h dX9_tell_37 (fun h => ?_)
      refine E_oI h (fun v9 h => ?_)
      refine E_istore_n (l' := [(3, .int v9), (0, .ref a0), (1, .int x1), (2, .int x2)]) dX9_tell_38 rfl (Nat.le_of_ble_eq_true rfl) rfl ?_
      refine E_iload_n dX9_tell_39 rfl rfl ?_
      refine E_bipush (v := 6) dX9_tell_40 (by decide) ?_
      refine E_ic_ne (tgt := 52) h dX9_tell_42 (by decide) (fun h => ?_) (fun h => ?_)
      · refine E_aload_n dX9_tell_52 rfl rfl ?_
        refine E_getA h dX9_tell_53 cf9 lk_X9_13 (by decide) (fun _ _ _ => rfl) (fun e10 h => ?_)
        refine E_bipush (v := 115) dX9_tell_56 (by decide) ?_
        refine E_iconst (v := 2) dX9_tell_58 (by decide) ?_
        refine E_iload_n dX9_tell_59 rfl rfl ?_
        refine E_imul dX9_tell_60 ?_
        refine E_iadd dX9_tell_61 ?_
        refine E_iload_n dX9_tell_62 rfl rfl ?_
        refine E_iast h dX9_tell_63 (fun h => ?_)
        refine E_oU h (fun u11 h => ?_)
        refine E_aload_n dX9_tell_64 rfl rfl ?_
        refine E_getA h dX9_tell_65 cf9 lk_X9_13 (by decide) (fun _ _ _ => rfl) (fun e12 h => ?_)
        refine E_bipush (v := 115) dX9_tell_68 (by decide) ?_
        refine E_iconst (v := 2) dX9_tell_70 (by decide) ?_
        refine E_iload_n dX9_tell_71 rfl rfl ?_
        refine E_imul dX9_tell_72 ?_
        refine E_iadd dX9_tell_73 ?_
        refine E_iconst (v := 1) dX9_tell_74 (by decide) ?_
        refine E_iadd dX9_tell_75 ?_
        refine E_iload_n dX9_tell_76 rfl rfl ?_
        refine E_iast h dX9_tell_77 (fun h => ?_)
        refine E_oU h (fun u13 h => ?_)
        refine E_aload_n dX9_tell_78 rfl rfl ?_
        refine E_getA h dX9_tell_79 cf9 lk_X9_13 (by decide) (fun _ _ _ => rfl) (fun e14 h => ?_)
        refine E_iconst (v := 1) dX9_tell_82 (by decide) ?_
        refine E_dup2 dX9_tell_83 rfl rfl ?_
        refine E_iald h dX9_tell_84 (fun h => ?_)
        refine E_oI h (fun v15 h => ?_)
        refine E_iconst (v := 1) dX9_tell_85 (by decide) ?_
        refine E_iadd dX9_tell_86 ?_
        refine E_iast h dX9_tell_87 (fun h => ?_)
        refine E_oU h (fun u16 h => ?_)
        refine E_aload_n dX9_tell_88 rfl rfl ?_
        refine E_iload_n dX9_tell_89 rfl rfl ?_
        refine E_iconst (v := 1) dX9_tell_90 (by decide) ?_
        refine E_iadd dX9_tell_91 ?_
        refine F_Vi h (fun a m e => tX9_answer e) dX9_tell_92 hm_X9_answer hv_X9_answer ln_X9_143 rfl rfl (Nat.le_of_ble_eq_true rfl) (Nat.le_of_ble_eq_true rfl) (kc' := 0) (ks' := 0) rfl rfl (fun v17 u18 h => ?_)
        exact E_iret h dX9_tell_95 rfl
      · refine E_aload_n dX9_tell_45 rfl rfl ?_
        refine E_bipush (v := (-5)) dX9_tell_46 (by decide) ?_
        refine F_Vi h (fun a m e => tX9_answer e) dX9_tell_48 hm_X9_answer hv_X9_answer ln_X9_143 rfl rfl (Nat.le_of_ble_eq_true rfl) (Nat.le_of_ble_eq_true rfl) (kc' := 0) (ks' := 0) rfl rfl (fun v19 u20 h => ?_)
        exact E_iret h dX9_tell_51 rfl
    · refine Eg.pick [0] rfl ?_
      exact pX9_tell_26 _ _ h
def fX9_forget (u : Mm) (a0 : Nat) : Option (Int32 × Mm) := oK u a0 9 54 (oU (wI u a0 (upd (mI u a0) 0 0)) (fun u1 => oK u1 a0 9 54 (oNn (mR u1 a0 3) (fun e2 => oA u1 e2 10 0 (oI (mI u1 e2 (Int32.toNatClampNeg 0)) (fun v3 => oK u1 a0 9 54 (oNn (mR u1 a0 3) (fun e4 => oA u1 e4 10 1 (oI (mI u1 e4 (Int32.toNatClampNeg 1)) (fun v5 => oI (v3 + v5) (fun v6 => oK u1 a0 9 54 (oNn (mR u1 a0 3) (fun e7 => oA u1 e7 10 0 (oU (wI u1 e7 (upd (mI u1 e7) (Int32.toNatClampNeg 0) 0)) (fun u8 => oK u8 a0 9 54 (oNn (mR u8 a0 3) (fun e9 => oA u8 e9 10 1 (oU (wI u8 e9 (upd (mI u8 e9) (Int32.toNatClampNeg 1) 0)) (fun u10 => some (v6, u10))))))))))))))))))))
set_option maxRecDepth 100000 in
set_option maxHeartbeats 4000000 in
theorem tX9_forget {u : Mm} {a0 : Nat} {r : Int32} {u' : Mm} (h : fX9_forget u a0 = some (r, u')) : Ev 0 MX9_forget 0 0 [.ref a0] u (some (.int r), u') := by
  refine Ev.of (by decide +kernel) (Nat.le_of_ble_eq_true rfl) (show Eg MX9_forget 0 0 0 (some (.int r), u') 0 [(0, .ref a0)] [] u from ?_)
  unfold fX9_forget at h
  refine E_aload_n dX9_forget_0 rfl rfl ?_
  refine E_iconst (v := 0) dX9_forget_1 (by decide) ?_
  refine E_putI h dX9_forget_2 cf9 lk_X9_134 (by decide) (Or.inl rfl) rfl (fun h => ?_)
  refine E_oU h (fun u1 h => ?_)
  refine E_aload_n dX9_forget_5 rfl rfl ?_
  refine E_getA h dX9_forget_6 cf9 lk_X9_13 (by decide) (fun _ _ _ => rfl) (fun e2 h => ?_)
  refine E_iconst (v := 0) dX9_forget_9 (by decide) ?_
  refine E_iald h dX9_forget_10 (fun h => ?_)
  refine E_oI h (fun v3 h => ?_)
  refine E_aload_n dX9_forget_11 rfl rfl ?_
  refine E_getA h dX9_forget_12 cf9 lk_X9_13 (by decide) (fun _ _ _ => rfl) (fun e4 h => ?_)
  refine E_iconst (v := 1) dX9_forget_15 (by decide) ?_
  refine E_iald h dX9_forget_16 (fun h => ?_)
  refine E_oI h (fun v5 h => ?_)
  refine E_iadd dX9_forget_17 ?_
  refine E_oI h (fun v6 h => ?_)
  refine E_istore_n (l' := [(1, .int v6), (0, .ref a0)]) dX9_forget_18 rfl (Nat.le_of_ble_eq_true rfl) rfl ?_
  refine E_aload_n dX9_forget_19 rfl rfl ?_
  refine E_getA h dX9_forget_20 cf9 lk_X9_13 (by decide) (fun _ _ _ => rfl) (fun e7 h => ?_)
  refine E_iconst (v := 0) dX9_forget_23 (by decide) ?_
  refine E_iconst (v := 0) dX9_forget_24 (by decide) ?_
  refine E_iast h dX9_forget_25 (fun h => ?_)
  refine E_oU h (fun u8 h => ?_)
  refine E_aload_n dX9_forget_26 rfl rfl ?_
  refine E_getA h dX9_forget_27 cf9 lk_X9_13 (by decide) (fun _ _ _ => rfl) (fun e9 h => ?_)
  refine E_iconst (v := 1) dX9_forget_30 (by decide) ?_
  refine E_iconst (v := 0) dX9_forget_31 (by decide) ?_
  refine E_iast h dX9_forget_32 (fun h => ?_)
  refine E_oU h (fun u10 h => ?_)
  refine E_iload_n dX9_forget_33 rfl rfl ?_
  exact E_iret h dX9_forget_34 rfl
def bX9_pausesOf_33 (u : Mm) (s0 : Int64) : Option (Int64 × Mm) := some (s0, u)
set_option maxRecDepth 100000 in
set_option maxHeartbeats 4000000 in
theorem pX9_pausesOf_33 {r : Int64} {u' : Mm} (u : Mm) (s0 : Int64) (h : bX9_pausesOf_33 u s0 = some (r, u')) : Eg MX9_pausesOf 0 0 0 (some (.long r), u') 33 [] [.long s0] u := by
  unfold bX9_pausesOf_33 at h
  exact E_lret h dX9_pausesOf_33 rfl
def fX9_pausesOf (u : Mm) (a0 : Nat) (x1 : Int32) (x2 : Int32) (x3 : Int32) : Option (Int64 × Mm) := oK u a0 9 54 (oNn (mR u a0 3) (fun e1 => oA u e1 10 (((83 : Int32) + ((2 : Int32) * x1)) + x2) (oI (mI u e1 (Int32.toNatClampNeg (((83 : Int32) + ((2 : Int32) * x1)) + x2))) (fun v2 => (if (x3 : Int32) = 1 then bX9_pausesOf_33 u (Int32.toInt64 v2) else bX9_pausesOf_33 u ((10 : Int64) - (Int32.toInt64 v2)))))))
set_option maxRecDepth 100000 in
set_option maxHeartbeats 4000000 in
theorem tX9_pausesOf {u : Mm} {a0 : Nat} {x1 : Int32} {x2 : Int32} {x3 : Int32} {r : Int64} {u' : Mm} (h : fX9_pausesOf u a0 x1 x2 x3 = some (r, u')) : Ev 0 MX9_pausesOf 0 0 [.ref a0, .int x1, .int x2, .int x3] u (some (.long r), u') := by
  refine Ev.of (by decide +kernel) (Nat.le_of_ble_eq_true rfl) (show Eg MX9_pausesOf 0 0 0 (some (.long r), u') 0 [(0, .ref a0), (1, .int x1), (2, .int x2), (3, .int x3)] [] u from ?_)
  unfold fX9_pausesOf at h
  refine E_aload_n dX9_pausesOf_0 rfl rfl ?_
  refine E_getA h dX9_pausesOf_1 cf9 lk_X9_13 (by decide) (fun _ _ _ => rfl) (fun e1 h => ?_)
  refine E_bipush (v := 83) dX9_pausesOf_4 (by decide) ?_
  refine E_iconst (v := 2) dX9_pausesOf_6 (by decide) ?_
  refine E_iload_n dX9_pausesOf_7 rfl rfl ?_
  refine E_imul dX9_pausesOf_8 ?_
  refine E_iadd dX9_pausesOf_9 ?_
  refine E_iload_n dX9_pausesOf_10 rfl rfl ?_
  refine E_iadd dX9_pausesOf_11 ?_
  refine E_iald h dX9_pausesOf_12 (fun h => ?_)
  refine E_oI h (fun v2 h => ?_)
  refine E_istore (l' := [(4, .int v2), (0, .ref a0), (1, .int x1), (2, .int x2), (3, .int x3)]) dX9_pausesOf_13 (Nat.le_of_ble_eq_true rfl) rfl ?_
  refine E_iload_n dX9_pausesOf_15 rfl rfl ?_
  refine E_iconst (v := 1) dX9_pausesOf_16 (by decide) ?_
  refine E_ic_ne (tgt := 26) h dX9_pausesOf_17 (by decide) (fun h => ?_) (fun h => ?_)
  · refine E_ldc2 dX9_pausesOf_26 rfl cn_X9_205 ?_
    refine E_iload dX9_pausesOf_29 rfl ?_
    refine E_i2l dX9_pausesOf_31 ?_
    refine E_lsub dX9_pausesOf_32 ?_
    refine Eg.pick [] rfl ?_
    exact pX9_pausesOf_33 _ _ h
  · refine E_iload dX9_pausesOf_20 rfl ?_
    refine E_i2l dX9_pausesOf_22 ?_
    refine E_goto (tgt := 33) dX9_pausesOf_23 (by decide) ?_
    refine Eg.pick [] rfl ?_
    exact pX9_pausesOf_33 _ _ h
def bX9_probablyBy_161 (u : Mm) (s0 : Int32) : Option (Int32 × Mm) := some (s0, u)
set_option maxRecDepth 100000 in
set_option maxHeartbeats 4000000 in
theorem pX9_probablyBy_161 {r : Int32} {u' : Mm} (u : Mm) (s0 : Int32) (h : bX9_probablyBy_161 u s0 = some (r, u')) : Eg MX9_probablyBy 1 0 0 (some (.int r), u') 161 [] [.int s0] u := by
  unfold bX9_probablyBy_161 at h
  exact E_iret h dX9_probablyBy_161 rfl
def bX9_probablyBy_132 (u : Mm) (y3 : Int64) (s0 : Int64) (s1 : Int64) : Option (Int32 × Mm) := oJ (s1 * s0) (fun w8 => (if (lg_cmp (y3 + w8) 0 : Int32) = 0 then bX9_probablyBy_161 u 500000 else (if (y3 + w8 : Int64) ≠ 0 then bX9_probablyBy_161 u (Int64.toInt32 ((y3 * 1000000) / (y3 + w8))) else none)))
set_option maxRecDepth 100000 in
set_option maxHeartbeats 4000000 in
theorem pX9_probablyBy_132 {r : Int32} {u' : Mm} (u : Mm) (y3 : Int64) (s0 : Int64) (s1 : Int64) (h : bX9_probablyBy_132 u y3 s0 s1 = some (r, u')) : Eg MX9_probablyBy 1 0 0 (some (.int r), u') 132 [(3, .long y3)] [.long s0, .long s1] u := by
  unfold bX9_probablyBy_132 at h
  refine E_lmul dX9_probablyBy_132 ?_
  refine E_oJ h (fun w8 h => ?_)
  refine E_lstore (l' := [(5, .long w8), (3, .long y3)]) dX9_probablyBy_133 (Nat.le_of_ble_eq_true rfl) rfl ?_
  refine E_lload_n dX9_probablyBy_135 rfl rfl ?_
  refine E_lload dX9_probablyBy_136 rfl ?_
  refine E_ladd dX9_probablyBy_138 ?_
  refine E_lconst (v := 0) dX9_probablyBy_139 (by decide) ?_
  refine E_lcmp dX9_probablyBy_140 ?_
  refine E_if_ne (tgt := 150) h dX9_probablyBy_141 (by decide) (fun h => ?_) (fun h => ?_)
  · refine E_lload_n dX9_probablyBy_150 rfl rfl ?_
    refine E_ldc2 dX9_probablyBy_151 rfl cn_X9_250 ?_
    refine E_lmul dX9_probablyBy_154 ?_
    refine E_lload_n dX9_probablyBy_155 rfl rfl ?_
    refine E_lload dX9_probablyBy_156 rfl ?_
    refine E_ladd dX9_probablyBy_158 ?_
    refine E_ldiv h dX9_probablyBy_159 (fun h => ?_)
    refine E_l2i dX9_probablyBy_160 ?_
    refine Eg.pick [] rfl ?_
    exact pX9_probablyBy_161 _ _ h
  · refine E_ldcw dX9_probablyBy_144 rfl cn_X9_456 ?_
    refine E_goto (tgt := 161) dX9_probablyBy_147 (by decide) ?_
    refine Eg.pick [] rfl ?_
    exact pX9_probablyBy_161 _ _ h
def bX9_probablyBy_112 (u : Mm) (a0 : Nat) (x1 : Int32) (x2 : Int32) (y5 : Int64) (s0 : Int64) (s1 : Int64) : Option (Int32 × Mm) := oJ (s1 * s0) (fun w5 => (if (x1 : Int32) = ((-1)) then bX9_probablyBy_132 u w5 1 y5 else oR u a0 9 (oB (fX9_pausesOf u a0 x1 1 x2) (fun w6 u7 => bX9_probablyBy_132 u7 w5 w6 y5))))
set_option maxRecDepth 100000 in
set_option maxHeartbeats 4000000 in
theorem pX9_probablyBy_112 {r : Int32} {u' : Mm} (u : Mm) (a0 : Nat) (x1 : Int32) (x2 : Int32) (y5 : Int64) (s0 : Int64) (s1 : Int64) (h : bX9_probablyBy_112 u a0 x1 x2 y5 s0 s1 = some (r, u')) : Eg MX9_probablyBy 1 0 0 (some (.int r), u') 112 [(0, .ref a0), (1, .int x1), (2, .int x2), (5, .long y5)] [.long s0, .long s1] u := by
  unfold bX9_probablyBy_112 at h
  refine E_lmul dX9_probablyBy_112 ?_
  refine E_oJ h (fun w5 h => ?_)
  refine E_lstore_n (l' := [(3, .long w5), (0, .ref a0), (1, .int x1), (2, .int x2), (5, .long y5)]) dX9_probablyBy_113 rfl (Nat.le_of_ble_eq_true rfl) rfl ?_
  refine E_lload dX9_probablyBy_114 rfl ?_
  refine E_iload_n dX9_probablyBy_116 rfl rfl ?_
  refine E_iconst (v := (-1)) dX9_probablyBy_117 (by decide) ?_
  refine E_ic_ne (tgt := 125) h dX9_probablyBy_118 (by decide) (fun h => ?_) (fun h => ?_)
  · refine E_aload_n dX9_probablyBy_125 rfl rfl ?_
    refine E_iload_n dX9_probablyBy_126 rfl rfl ?_
    refine E_iconst (v := 1) dX9_probablyBy_127 (by decide) ?_
    refine E_iload_n dX9_probablyBy_128 rfl rfl ?_
    refine F_Vl h (fun a m e => tX9_pausesOf e) dX9_probablyBy_129 hm_X9_pausesOf hv_X9_pausesOf ln_X9_452 rfl rfl (Nat.le_of_ble_eq_true rfl) (Nat.le_of_ble_eq_true rfl) (kc' := 0) (ks' := 0) rfl rfl (fun w6 u7 h => ?_)
    refine Eg.pick [0] rfl ?_
    exact pX9_probablyBy_132 _ _ _ _ h
  · refine E_lconst (v := 1) dX9_probablyBy_121 (by decide) ?_
    refine E_goto (tgt := 132) dX9_probablyBy_122 (by decide) ?_
    refine Eg.pick [0] rfl ?_
    exact pX9_probablyBy_132 _ _ _ _ h
def bX9_probablyBy_8 (k8 : Mm → Nat → Int32 → Int32 → Int64 → Int64 → Int32 → Option (Int32 × Mm)) (u : Mm) (a0 : Nat) (x1 : Int32) (x2 : Int32) (y3 : Int64) (y5 : Int64) (x7 : Int32) : Option (Int32 × Mm) := oK u a0 9 54 (oNn (mR u a0 3) (fun e1 => oA u e1 10 0 (oI (mI u e1 (Int32.toNatClampNeg 0)) (fun v2 => (if (v2 : Int32) ≤ x7 then (if (x1 : Int32) = ((-1)) then bX9_probablyBy_112 u a0 x1 x2 y5 1 y3 else oR u a0 9 (oB (fX9_pausesOf u a0 x1 0 x2) (fun w3 u4 => bX9_probablyBy_112 u4 a0 x1 x2 y5 w3 y3))) else oK u a0 9 54 (oNn (mR u a0 3) (fun e9 => oA u e9 10 ((99 : Int32) + ((2 : Int32) * x7)) (oI (mI u e9 (Int32.toNatClampNeg ((99 : Int32) + ((2 : Int32) * x7)))) (fun v10 => oK u a0 9 54 (oNn (mR u a0 3) (fun e11 => oA u e11 10 (((99 : Int32) + ((2 : Int32) * x7)) + 1) (oI (mI u e11 (Int32.toNatClampNeg (((99 : Int32) + ((2 : Int32) * x7)) + 1))) (fun v12 => oR u a0 9 (oB (fX9_pausesOf u a0 v10 0 v12) (fun w13 u14 => oJ (y3 * w13) (fun w15 => oK u14 a0 9 54 (oNn (mR u14 a0 3) (fun e16 => oA u14 e16 10 ((99 : Int32) + ((2 : Int32) * x7)) (oI (mI u14 e16 (Int32.toNatClampNeg ((99 : Int32) + ((2 : Int32) * x7)))) (fun v17 => oK u14 a0 9 54 (oNn (mR u14 a0 3) (fun e18 => oA u14 e18 10 (((99 : Int32) + ((2 : Int32) * x7)) + 1) (oI (mI u14 e18 (Int32.toNatClampNeg (((99 : Int32) + ((2 : Int32) * x7)) + 1))) (fun v19 => oR u14 a0 9 (oB (fX9_pausesOf u14 a0 v17 1 v19) (fun w20 u21 => oJ (y5 * w20) (fun w22 => k8 u21 a0 x1 x2 w15 w22 (x7 + 1))))))))))))))))))))))))))))
set_option maxRecDepth 100000 in
set_option maxHeartbeats 4000000 in
theorem pX9_probablyBy_8 {r : Int32} {u' : Mm} {k8 : Mm → Nat → Int32 → Int32 → Int64 → Int64 → Int32 → Option (Int32 × Mm)} (hk8 : ∀ (u : Mm) (a0 : Nat) (x1 : Int32) (x2 : Int32) (y3 : Int64) (y5 : Int64) (x7 : Int32), k8 u a0 x1 x2 y3 y5 x7 = some (r, u') → Eg MX9_probablyBy 1 0 0 (some (.int r), u') 8 [(0, .ref a0), (1, .int x1), (2, .int x2), (3, .long y3), (5, .long y5), (7, .int x7)] [] u) (u : Mm) (a0 : Nat) (x1 : Int32) (x2 : Int32) (y3 : Int64) (y5 : Int64) (x7 : Int32) (h : bX9_probablyBy_8 k8 u a0 x1 x2 y3 y5 x7 = some (r, u')) : Eg MX9_probablyBy 1 0 0 (some (.int r), u') 8 [(0, .ref a0), (1, .int x1), (2, .int x2), (3, .long y3), (5, .long y5), (7, .int x7)] [] u := by
  unfold bX9_probablyBy_8 at h
  refine E_iload dX9_probablyBy_8 rfl ?_
  refine E_aload_n dX9_probablyBy_10 rfl rfl ?_
  refine E_getA h dX9_probablyBy_11 cf9 lk_X9_13 (by decide) (fun _ _ _ => rfl) (fun e1 h => ?_)
  refine E_iconst (v := 0) dX9_probablyBy_14 (by decide) ?_
  refine E_iald h dX9_probablyBy_15 (fun h => ?_)
  refine E_oI h (fun v2 h => ?_)
  refine E_ic_ge (tgt := 95) h dX9_probablyBy_16 (by decide) (fun h => ?_) (fun h => ?_)
  · refine E_lload_n dX9_probablyBy_95 rfl rfl ?_
    refine E_iload_n dX9_probablyBy_96 rfl rfl ?_
    refine E_iconst (v := (-1)) dX9_probablyBy_97 (by decide) ?_
    refine E_ic_ne (tgt := 105) h dX9_probablyBy_98 (by decide) (fun h => ?_) (fun h => ?_)
    · refine E_aload_n dX9_probablyBy_105 rfl rfl ?_
      refine E_iload_n dX9_probablyBy_106 rfl rfl ?_
      refine E_iconst (v := 0) dX9_probablyBy_107 (by decide) ?_
      refine E_iload_n dX9_probablyBy_108 rfl rfl ?_
      refine F_Vl h (fun a m e => tX9_pausesOf e) dX9_probablyBy_109 hm_X9_pausesOf hv_X9_pausesOf ln_X9_452 rfl rfl (Nat.le_of_ble_eq_true rfl) (Nat.le_of_ble_eq_true rfl) (kc' := 0) (ks' := 0) rfl rfl (fun w3 u4 h => ?_)
      refine Eg.pick [0, 1, 2, 4] rfl ?_
      exact pX9_probablyBy_112 _ _ _ _ _ _ _ h
    · refine E_lconst (v := 1) dX9_probablyBy_101 (by decide) ?_
      refine E_goto (tgt := 112) dX9_probablyBy_102 (by decide) ?_
      refine Eg.pick [0, 1, 2, 4] rfl ?_
      exact pX9_probablyBy_112 _ _ _ _ _ _ _ h
  · refine E_lload_n dX9_probablyBy_19 rfl rfl ?_
    refine E_aload_n dX9_probablyBy_20 rfl rfl ?_
    refine E_aload_n dX9_probablyBy_21 rfl rfl ?_
    refine E_getA h dX9_probablyBy_22 cf9 lk_X9_13 (by decide) (fun _ _ _ => rfl) (fun e9 h => ?_)
    refine E_bipush (v := 99) dX9_probablyBy_25 (by decide) ?_
    refine E_iconst (v := 2) dX9_probablyBy_27 (by decide) ?_
    refine E_iload dX9_probablyBy_28 rfl ?_
    refine E_imul dX9_probablyBy_30 ?_
    refine E_iadd dX9_probablyBy_31 ?_
    refine E_iald h dX9_probablyBy_32 (fun h => ?_)
    refine E_oI h (fun v10 h => ?_)
    refine E_iconst (v := 0) dX9_probablyBy_33 (by decide) ?_
    refine E_aload_n dX9_probablyBy_34 rfl rfl ?_
    refine E_getA h dX9_probablyBy_35 cf9 lk_X9_13 (by decide) (fun _ _ _ => rfl) (fun e11 h => ?_)
    refine E_bipush (v := 99) dX9_probablyBy_38 (by decide) ?_
    refine E_iconst (v := 2) dX9_probablyBy_40 (by decide) ?_
    refine E_iload dX9_probablyBy_41 rfl ?_
    refine E_imul dX9_probablyBy_43 ?_
    refine E_iadd dX9_probablyBy_44 ?_
    refine E_iconst (v := 1) dX9_probablyBy_45 (by decide) ?_
    refine E_iadd dX9_probablyBy_46 ?_
    refine E_iald h dX9_probablyBy_47 (fun h => ?_)
    refine E_oI h (fun v12 h => ?_)
    refine F_Vl h (fun a m e => tX9_pausesOf e) dX9_probablyBy_48 hm_X9_pausesOf hv_X9_pausesOf ln_X9_452 rfl rfl (Nat.le_of_ble_eq_true rfl) (Nat.le_of_ble_eq_true rfl) (kc' := 0) (ks' := 0) rfl rfl (fun w13 u14 h => ?_)
    refine E_lmul dX9_probablyBy_51 ?_
    refine E_oJ h (fun w15 h => ?_)
    refine E_lstore_n (l' := [(3, .long w15), (0, .ref a0), (1, .int x1), (2, .int x2), (5, .long y5), (7, .int x7)]) dX9_probablyBy_52 rfl (Nat.le_of_ble_eq_true rfl) rfl ?_
    refine E_lload dX9_probablyBy_53 rfl ?_
    refine E_aload_n dX9_probablyBy_55 rfl rfl ?_
    refine E_aload_n dX9_probablyBy_56 rfl rfl ?_
    refine E_getA h dX9_probablyBy_57 cf9 lk_X9_13 (by decide) (fun _ _ _ => rfl) (fun e16 h => ?_)
    refine E_bipush (v := 99) dX9_probablyBy_60 (by decide) ?_
    refine E_iconst (v := 2) dX9_probablyBy_62 (by decide) ?_
    refine E_iload dX9_probablyBy_63 rfl ?_
    refine E_imul dX9_probablyBy_65 ?_
    refine E_iadd dX9_probablyBy_66 ?_
    refine E_iald h dX9_probablyBy_67 (fun h => ?_)
    refine E_oI h (fun v17 h => ?_)
    refine E_iconst (v := 1) dX9_probablyBy_68 (by decide) ?_
    refine E_aload_n dX9_probablyBy_69 rfl rfl ?_
    refine E_getA h dX9_probablyBy_70 cf9 lk_X9_13 (by decide) (fun _ _ _ => rfl) (fun e18 h => ?_)
    refine E_bipush (v := 99) dX9_probablyBy_73 (by decide) ?_
    refine E_iconst (v := 2) dX9_probablyBy_75 (by decide) ?_
    refine E_iload dX9_probablyBy_76 rfl ?_
    refine E_imul dX9_probablyBy_78 ?_
    refine E_iadd dX9_probablyBy_79 ?_
    refine E_iconst (v := 1) dX9_probablyBy_80 (by decide) ?_
    refine E_iadd dX9_probablyBy_81 ?_
    refine E_iald h dX9_probablyBy_82 (fun h => ?_)
    refine E_oI h (fun v19 h => ?_)
    refine F_Vl h (fun a m e => tX9_pausesOf e) dX9_probablyBy_83 hm_X9_pausesOf hv_X9_pausesOf ln_X9_452 rfl rfl (Nat.le_of_ble_eq_true rfl) (Nat.le_of_ble_eq_true rfl) (kc' := 0) (ks' := 0) rfl rfl (fun w20 u21 h => ?_)
    refine E_lmul dX9_probablyBy_86 ?_
    refine E_oJ h (fun w22 h => ?_)
    refine E_lstore (l' := [(5, .long w22), (3, .long w15), (0, .ref a0), (1, .int x1), (2, .int x2), (7, .int x7)]) dX9_probablyBy_87 (Nat.le_of_ble_eq_true rfl) rfl ?_
    refine E_iinc (j := 5) (v := x7 + 1) (l' := [(7, .int (x7 + 1)), (5, .long w22), (3, .long w15), (0, .ref a0), (1, .int x1), (2, .int x2)]) dX9_probablyBy_89 rfl (addI (by decide)) (Nat.le_of_ble_eq_true rfl) rfl ?_
    refine E_goto (tgt := 8) dX9_probablyBy_92 (by decide) ?_
    refine Eg.pick [3, 4, 5, 2, 1, 0] rfl ?_
    exact hk8 _ _ _ _ _ _ _ h
def rX9_probablyBy_8 : Nat → Mm → Nat → Int32 → Int32 → Int64 → Int64 → Int32 → Option (Int32 × Mm)
  | 0, _, _, _, _, _, _, _ => none
  | n + 1, u, a0, x1, x2, y3, y5, x7 => bX9_probablyBy_8 (rX9_probablyBy_8 n) u a0 x1 x2 y3 y5 x7
theorem prX9_probablyBy_8 {r : Int32} {u' : Mm} : ∀ (n : Nat) (u : Mm) (a0 : Nat) (x1 : Int32) (x2 : Int32) (y3 : Int64) (y5 : Int64) (x7 : Int32), rX9_probablyBy_8 n u a0 x1 x2 y3 y5 x7 = some (r, u') → Eg MX9_probablyBy 1 0 0 (some (.int r), u') 8 [(0, .ref a0), (1, .int x1), (2, .int x2), (3, .long y3), (5, .long y5), (7, .int x7)] [] u
  | 0, _, _, _, _, _, _, _, h => by cases h
  | n + 1, u, a0, x1, x2, y3, y5, x7, h => pX9_probablyBy_8 (prX9_probablyBy_8 n) u a0 x1 x2 y3 y5 x7 h
def fX9_probablyBy (u : Mm) (a0 : Nat) (x1 : Int32) (x2 : Int32) : Option (Int32 × Mm) := rX9_probablyBy_8 hwF u a0 x1 x2 1 1 0
set_option maxRecDepth 100000 in
set_option maxHeartbeats 4000000 in
theorem tX9_probablyBy {u : Mm} {a0 : Nat} {x1 : Int32} {x2 : Int32} {r : Int32} {u' : Mm} (h : fX9_probablyBy u a0 x1 x2 = some (r, u')) : Ev 1 MX9_probablyBy 0 0 [.ref a0, .int x1, .int x2] u (some (.int r), u') := by
  refine Ev.of (by decide +kernel) (Nat.le_of_ble_eq_true rfl) (show Eg MX9_probablyBy 1 0 0 (some (.int r), u') 0 [(0, .ref a0), (1, .int x1), (2, .int x2)] [] u from ?_)
  unfold fX9_probablyBy at h
  refine E_lconst (v := 1) dX9_probablyBy_0 (by decide) ?_
  refine E_lstore_n (l' := [(3, .long 1), (0, .ref a0), (1, .int x1), (2, .int x2)]) dX9_probablyBy_1 rfl (Nat.le_of_ble_eq_true rfl) rfl ?_
  refine E_lconst (v := 1) dX9_probablyBy_2 (by decide) ?_
  refine E_lstore (l' := [(5, .long 1), (3, .long 1), (0, .ref a0), (1, .int x1), (2, .int x2)]) dX9_probablyBy_3 (Nat.le_of_ble_eq_true rfl) rfl ?_
  refine E_iconst (v := 0) dX9_probablyBy_5 (by decide) ?_
  refine E_istore (l' := [(7, .int 0), (5, .long 1), (3, .long 1), (0, .ref a0), (1, .int x1), (2, .int x2)]) dX9_probablyBy_6 (Nat.le_of_ble_eq_true rfl) rfl ?_
  refine Eg.pick [3, 4, 5, 2, 1, 0] rfl ?_
  exact prX9_probablyBy_8 _ _ _ _ _ _ _ _ h
def fX9_probably (u : Mm) (a0 : Nat) : Option (Int32 × Mm) := oK u a0 9 54 (oU (wI u a0 (upd (mI u a0) 0 0)) (fun u1 => oR u1 a0 9 (oB (fX9_probablyBy u1 a0 ((-1)) 0) (fun v2 u3 => some (v2, u3)))))
set_option maxRecDepth 100000 in
set_option maxHeartbeats 4000000 in
theorem tX9_probably {u : Mm} {a0 : Nat} {r : Int32} {u' : Mm} (h : fX9_probably u a0 = some (r, u')) : Ev 2 MX9_probably 0 0 [.ref a0] u (some (.int r), u') := by
  refine Ev.of (by decide +kernel) (Nat.le_of_ble_eq_true rfl) (show Eg MX9_probably 2 0 0 (some (.int r), u') 0 [(0, .ref a0)] [] u from ?_)
  unfold fX9_probably at h
  refine E_aload_n dX9_probably_0 rfl rfl ?_
  refine E_iconst (v := 0) dX9_probably_1 (by decide) ?_
  refine E_putI h dX9_probably_2 cf9 lk_X9_134 (by decide) (Or.inl rfl) rfl (fun h => ?_)
  refine E_oU h (fun u1 h => ?_)
  refine E_aload_n dX9_probably_5 rfl rfl ?_
  refine E_iconst (v := (-1)) dX9_probably_6 (by decide) ?_
  refine E_iconst (v := 0) dX9_probably_7 (by decide) ?_
  refine F_Vi h (fun a m e => tX9_probablyBy e) dX9_probably_8 hm_X9_probablyBy hv_X9_probablyBy ln_X9_457 rfl rfl (Nat.le_of_ble_eq_true rfl) (Nat.le_of_ble_eq_true rfl) (kc' := 0) (ks' := 0) rfl rfl (fun v2 u3 h => ?_)
  exact E_iret h dX9_probably_11 rfl
def bX9_ask_92 (u : Mm) (s0 : Int32) : Option (Int32 × Mm) := some (s0, u)
set_option maxRecDepth 100000 in
set_option maxHeartbeats 4000000 in
theorem pX9_ask_92 {r : Int32} {u' : Mm} (u : Mm) (s0 : Int32) (h : bX9_ask_92 u s0 = some (r, u')) : Eg MX9_ask 2 0 0 (some (.int r), u') 92 [] [.int s0] u := by
  unfold bX9_ask_92 at h
  exact E_iret h dX9_ask_92 rfl
def bX9_ask_76 (k24 : Mm → Nat → Int32 → Int32 → Int32 → Int32 → Option (Int32 × Mm)) (u : Mm) (a0 : Nat) (x1 : Int32) (x3 : Int32) (x4 : Int32) (s0 : Int32) : Option (Int32 × Mm) := k24 u a0 x1 s0 x3 (x4 + 1)
set_option maxRecDepth 100000 in
set_option maxHeartbeats 4000000 in
theorem pX9_ask_76 {r : Int32} {u' : Mm} {k24 : Mm → Nat → Int32 → Int32 → Int32 → Int32 → Option (Int32 × Mm)} (hk24 : ∀ (u : Mm) (a0 : Nat) (x1 : Int32) (x2 : Int32) (x3 : Int32) (x4 : Int32), k24 u a0 x1 x2 x3 x4 = some (r, u') → Eg MX9_ask 2 0 0 (some (.int r), u') 24 [(0, .ref a0), (1, .int x1), (2, .int x2), (3, .int x3), (4, .int x4)] [] u) (u : Mm) (a0 : Nat) (x1 : Int32) (x3 : Int32) (x4 : Int32) (s0 : Int32) (h : bX9_ask_76 k24 u a0 x1 x3 x4 s0 = some (r, u')) : Eg MX9_ask 2 0 0 (some (.int r), u') 76 [(0, .ref a0), (1, .int x1), (3, .int x3), (4, .int x4)] [.int s0] u := by
  unfold bX9_ask_76 at h
  refine E_istore_n (l' := [(2, .int s0), (0, .ref a0), (1, .int x1), (3, .int x3), (4, .int x4)]) dX9_ask_76 rfl (Nat.le_of_ble_eq_true rfl) rfl ?_
  refine E_iinc (j := 4) (v := x4 + 1) (l' := [(4, .int (x4 + 1)), (2, .int s0), (0, .ref a0), (1, .int x1), (3, .int x3)]) dX9_ask_77 rfl (addI (by decide)) (Nat.le_of_ble_eq_true rfl) rfl ?_
  refine E_goto (tgt := 24) dX9_ask_80 (by decide) ?_
  refine Eg.pick [2, 3, 1, 4, 0] rfl ?_
  exact hk24 _ _ _ _ _ _ h
def bX9_ask_63 (k24 : Mm → Nat → Int32 → Int32 → Int32 → Int32 → Option (Int32 × Mm)) (u : Mm) (a0 : Nat) (x1 : Int32) (x2 : Int32) (x4 : Int32) (x5 : Int32) (s0 : Int32) : Option (Int32 × Mm) := (if (x5 : Int32) ≤ x2 then bX9_ask_76 k24 u a0 x1 s0 x4 x2 else bX9_ask_76 k24 u a0 x1 s0 x4 x5)
set_option maxRecDepth 100000 in
set_option maxHeartbeats 4000000 in
theorem pX9_ask_63 {r : Int32} {u' : Mm} {k24 : Mm → Nat → Int32 → Int32 → Int32 → Int32 → Option (Int32 × Mm)} (hk24 : ∀ (u : Mm) (a0 : Nat) (x1 : Int32) (x2 : Int32) (x3 : Int32) (x4 : Int32), k24 u a0 x1 x2 x3 x4 = some (r, u') → Eg MX9_ask 2 0 0 (some (.int r), u') 24 [(0, .ref a0), (1, .int x1), (2, .int x2), (3, .int x3), (4, .int x4)] [] u) (u : Mm) (a0 : Nat) (x1 : Int32) (x2 : Int32) (x4 : Int32) (x5 : Int32) (s0 : Int32) (h : bX9_ask_63 k24 u a0 x1 x2 x4 x5 s0 = some (r, u')) : Eg MX9_ask 2 0 0 (some (.int r), u') 63 [(0, .ref a0), (1, .int x1), (2, .int x2), (4, .int x4), (5, .int x5)] [.int s0] u := by
  unfold bX9_ask_63 at h
  refine E_istore_n (l' := [(3, .int s0), (0, .ref a0), (1, .int x1), (2, .int x2), (4, .int x4), (5, .int x5)]) dX9_ask_63 rfl (Nat.le_of_ble_eq_true rfl) rfl ?_
  refine E_iload dX9_ask_64 rfl ?_
  refine E_iload_n dX9_ask_66 rfl rfl ?_
  refine E_ic_le (tgt := 75) h dX9_ask_67 (by decide) (fun h => ?_) (fun h => ?_)
  · refine E_iload_n dX9_ask_75 rfl rfl ?_
    refine Eg.pick [1, 2, 0, 4] rfl ?_
    exact pX9_ask_76 hk24 _ _ _ _ _ _ h
  · refine E_iload dX9_ask_70 rfl ?_
    refine E_goto (tgt := 76) dX9_ask_72 (by decide) ?_
    refine Eg.pick [1, 2, 0, 4] rfl ?_
    exact pX9_ask_76 hk24 _ _ _ _ _ _ h
def bX9_ask_24 (k24 : Mm → Nat → Int32 → Int32 → Int32 → Int32 → Option (Int32 × Mm)) (u : Mm) (a0 : Nat) (x1 : Int32) (x2 : Int32) (x3 : Int32) (x4 : Int32) : Option (Int32 × Mm) := (if (8 : Int32) ≤ x4 then (if (x1 : Int32) = 0 then bX9_ask_92 u x3 else bX9_ask_92 u x2) else oR u a0 9 (oB (fX9_probablyBy u a0 x4 1) (fun v4 u5 => oR u5 a0 9 (oB (fX9_probablyBy u5 a0 x4 0) (fun v6 u7 => oB (fX9_sizeOf u7 (v4 - v6)) (fun v8 u9 => (if (v8 : Int32) ≤ x2 then bX9_ask_63 k24 u9 a0 x1 x2 x4 v8 x3 else bX9_ask_63 k24 u9 a0 x1 x2 x4 v8 x4)))))))
set_option maxRecDepth 100000 in
set_option maxHeartbeats 4000000 in
theorem pX9_ask_24 {r : Int32} {u' : Mm} {k24 : Mm → Nat → Int32 → Int32 → Int32 → Int32 → Option (Int32 × Mm)} (hk24 : ∀ (u : Mm) (a0 : Nat) (x1 : Int32) (x2 : Int32) (x3 : Int32) (x4 : Int32), k24 u a0 x1 x2 x3 x4 = some (r, u') → Eg MX9_ask 2 0 0 (some (.int r), u') 24 [(0, .ref a0), (1, .int x1), (2, .int x2), (3, .int x3), (4, .int x4)] [] u) (u : Mm) (a0 : Nat) (x1 : Int32) (x2 : Int32) (x3 : Int32) (x4 : Int32) (h : bX9_ask_24 k24 u a0 x1 x2 x3 x4 = some (r, u')) : Eg MX9_ask 2 0 0 (some (.int r), u') 24 [(0, .ref a0), (1, .int x1), (2, .int x2), (3, .int x3), (4, .int x4)] [] u := by
  unfold bX9_ask_24 at h
  refine E_iload dX9_ask_24 rfl ?_
  refine E_bipush (v := 8) dX9_ask_26 (by decide) ?_
  refine E_ic_ge (tgt := 83) h dX9_ask_28 (by decide) (fun h => ?_) (fun h => ?_)
  · refine E_iload_n dX9_ask_83 rfl rfl ?_
    refine E_if_ne (tgt := 91) h dX9_ask_84 (by decide) (fun h => ?_) (fun h => ?_)
    · refine E_iload_n dX9_ask_91 rfl rfl ?_
      refine Eg.pick [] rfl ?_
      exact pX9_ask_92 _ _ h
    · refine E_iload_n dX9_ask_87 rfl rfl ?_
      refine E_goto (tgt := 92) dX9_ask_88 (by decide) ?_
      refine Eg.pick [] rfl ?_
      exact pX9_ask_92 _ _ h
  · refine E_aload_n dX9_ask_31 rfl rfl ?_
    refine E_iload dX9_ask_32 rfl ?_
    refine E_iconst (v := 1) dX9_ask_34 (by decide) ?_
    refine F_Vi h (fun a m e => tX9_probablyBy e) dX9_ask_35 hm_X9_probablyBy hv_X9_probablyBy ln_X9_457 rfl rfl (Nat.le_of_ble_eq_true rfl) (Nat.le_of_ble_eq_true rfl) (kc' := 0) (ks' := 0) rfl rfl (fun v4 u5 h => ?_)
    refine E_aload_n dX9_ask_38 rfl rfl ?_
    refine E_iload dX9_ask_39 rfl ?_
    refine E_iconst (v := 0) dX9_ask_41 (by decide) ?_
    refine F_Vi h (fun a m e => tX9_probablyBy e) dX9_ask_42 hm_X9_probablyBy hv_X9_probablyBy ln_X9_457 rfl rfl (Nat.le_of_ble_eq_true rfl) (Nat.le_of_ble_eq_true rfl) (kc' := 0) (ks' := 0) rfl rfl (fun v6 u7 h => ?_)
    refine E_isub dX9_ask_45 ?_
    refine F_Si h (fun a m e => tX9_sizeOf e) dX9_ask_46 hm_X9_sizeOf hs_X9_sizeOf ln_X9_423 rfl rfl (Nat.le_of_ble_eq_true rfl) (Nat.le_of_ble_eq_true rfl) (kc' := 0) (ks' := 0) rfl rfl (fun v8 u9 h => ?_)
    refine E_istore (l' := [(5, .int v8), (0, .ref a0), (1, .int x1), (2, .int x2), (3, .int x3), (4, .int x4)]) dX9_ask_49 (Nat.le_of_ble_eq_true rfl) rfl ?_
    refine E_iload dX9_ask_51 rfl ?_
    refine E_iload_n dX9_ask_53 rfl rfl ?_
    refine E_ic_le (tgt := 62) h dX9_ask_54 (by decide) (fun h => ?_) (fun h => ?_)
    · refine E_iload_n dX9_ask_62 rfl rfl ?_
      refine Eg.pick [1, 2, 3, 5, 0] rfl ?_
      exact pX9_ask_63 hk24 _ _ _ _ _ _ _ h
    · refine E_iload dX9_ask_57 rfl ?_
      refine E_goto (tgt := 63) dX9_ask_59 (by decide) ?_
      refine Eg.pick [1, 2, 3, 5, 0] rfl ?_
      exact pX9_ask_63 hk24 _ _ _ _ _ _ _ h
def rX9_ask_24 : Nat → Mm → Nat → Int32 → Int32 → Int32 → Int32 → Option (Int32 × Mm)
  | 0, _, _, _, _, _, _ => none
  | n + 1, u, a0, x1, x2, x3, x4 => bX9_ask_24 (rX9_ask_24 n) u a0 x1 x2 x3 x4
theorem prX9_ask_24 {r : Int32} {u' : Mm} : ∀ (n : Nat) (u : Mm) (a0 : Nat) (x1 : Int32) (x2 : Int32) (x3 : Int32) (x4 : Int32), rX9_ask_24 n u a0 x1 x2 x3 x4 = some (r, u') → Eg MX9_ask 2 0 0 (some (.int r), u') 24 [(0, .ref a0), (1, .int x1), (2, .int x2), (3, .int x3), (4, .int x4)] [] u
  | 0, _, _, _, _, _, _, h => by cases h
  | n + 1, u, a0, x1, x2, x3, x4, h => pX9_ask_24 (prX9_ask_24 n) u a0 x1 x2 x3 x4 h
def fX9_ask (u : Mm) (a0 : Nat) (x1 : Int32) : Option (Int32 × Mm) := oK u a0 9 54 (oU (wI u a0 (upd (mI u a0) 0 0)) (fun u1 => oB (fX9_in u1 (Int32.toInt64 x1) 0 1) (fun v2 u3 => (if (v2 : Int32) = 0 then some ((-1), u3) else rX9_ask_24 hwF u3 a0 x1 ((-1)) ((-1)) 0))))
set_option maxRecDepth 100000 in
set_option maxHeartbeats 4000000 in
theorem tX9_ask {u : Mm} {a0 : Nat} {x1 : Int32} {r : Int32} {u' : Mm} (h : fX9_ask u a0 x1 = some (r, u')) : Ev 2 MX9_ask 0 0 [.ref a0, .int x1] u (some (.int r), u') := by
  refine Ev.of (by decide +kernel) (Nat.le_of_ble_eq_true rfl) (show Eg MX9_ask 2 0 0 (some (.int r), u') 0 [(0, .ref a0), (1, .int x1)] [] u from ?_)
  unfold fX9_ask at h
  refine E_aload_n dX9_ask_0 rfl rfl ?_
  refine E_iconst (v := 0) dX9_ask_1 (by decide) ?_
  refine E_putI h dX9_ask_2 cf9 lk_X9_134 (by decide) (Or.inl rfl) rfl (fun h => ?_)
  refine E_oU h (fun u1 h => ?_)
  refine E_iload_n dX9_ask_5 rfl rfl ?_
  refine E_i2l dX9_ask_6 ?_
  refine E_lconst (v := 0) dX9_ask_7 (by decide) ?_
  refine E_lconst (v := 1) dX9_ask_8 (by decide) ?_
  refine F_Si h (fun a m e => tX9_in e) dX9_ask_9 hm_X9_in hs_X9_in ln_X9_154 rfl rfl (Nat.le_of_ble_eq_true rfl) (Nat.le_of_ble_eq_true rfl) (kc' := 0) (ks' := 0) rfl rfl (fun v2 u3 h => ?_)
  refine E_if_ne (tgt := 17) h dX9_ask_12 (by decide) (fun h => ?_) (fun h => ?_)
  · refine E_iconst (v := (-1)) dX9_ask_17 (by decide) ?_
    refine E_istore_n (l' := [(2, .int ((-1))), (0, .ref a0), (1, .int x1)]) dX9_ask_18 rfl (Nat.le_of_ble_eq_true rfl) rfl ?_
    refine E_iconst (v := (-1)) dX9_ask_19 (by decide) ?_
    refine E_istore_n (l' := [(3, .int ((-1))), (2, .int ((-1))), (0, .ref a0), (1, .int x1)]) dX9_ask_20 rfl (Nat.le_of_ble_eq_true rfl) rfl ?_
    refine E_iconst (v := 0) dX9_ask_21 (by decide) ?_
    refine E_istore (l' := [(4, .int 0), (3, .int ((-1))), (2, .int ((-1))), (0, .ref a0), (1, .int x1)]) dX9_ask_22 (Nat.le_of_ble_eq_true rfl) rfl ?_
    refine Eg.pick [3, 4, 2, 1, 0] rfl ?_
    exact prX9_ask_24 _ _ _ _ _ _ _ h
  · refine E_iconst (v := (-1)) dX9_ask_15 (by decide) ?_
    exact E_iret h dX9_ask_16 rfl
def bX9_chainOf_102 (k33 : Mm → Nat → Int32 → Int32 → Int32 → Int32 → Option (Int32 × Mm)) (u : Mm) (a0 : Nat) (x3 : Int32) (x4 : Int32) (x6 : Int32) (s0 : Int32) : Option (Int32 × Mm) := oI ((1 : Int32) - x6) (fun v9 => k33 u a0 x3 x4 s0 v9)
set_option maxRecDepth 100000 in
set_option maxHeartbeats 4000000 in
theorem pX9_chainOf_102 {r : Int32} {u' : Mm} {k33 : Mm → Nat → Int32 → Int32 → Int32 → Int32 → Option (Int32 × Mm)} (hk33 : ∀ (u : Mm) (a0 : Nat) (x3 : Int32) (x4 : Int32) (x5 : Int32) (x6 : Int32), k33 u a0 x3 x4 x5 x6 = some (r, u') → Eg MX9_chainOf 1 0 0 (some (.int r), u') 33 [(0, .ref a0), (3, .int x3), (4, .int x4), (5, .int x5), (6, .int x6)] [] u) (u : Mm) (a0 : Nat) (x3 : Int32) (x4 : Int32) (x6 : Int32) (s0 : Int32) (h : bX9_chainOf_102 k33 u a0 x3 x4 x6 s0 = some (r, u')) : Eg MX9_chainOf 1 0 0 (some (.int r), u') 102 [(0, .ref a0), (3, .int x3), (4, .int x4), (6, .int x6)] [.int s0] u := by
  unfold bX9_chainOf_102 at h
  refine E_istore (l' := [(5, .int s0), (0, .ref a0), (3, .int x3), (4, .int x4), (6, .int x6)]) dX9_chainOf_102 (Nat.le_of_ble_eq_true rfl) rfl ?_
  refine E_iconst (v := 1) dX9_chainOf_104 (by decide) ?_
  refine E_iload dX9_chainOf_105 rfl ?_
  refine E_isub dX9_chainOf_107 ?_
  refine E_oI h (fun v9 h => ?_)
  refine E_istore (l' := [(6, .int v9), (5, .int s0), (0, .ref a0), (3, .int x3), (4, .int x4)]) dX9_chainOf_108 (Nat.le_of_ble_eq_true rfl) rfl ?_
  refine E_goto (tgt := 33) dX9_chainOf_110 (by decide) ?_
  refine Eg.pick [2, 3, 4, 1, 0] rfl ?_
  exact hk33 _ _ _ _ _ _ h
def bX9_chainOf_33 (k33 : Mm → Nat → Int32 → Int32 → Int32 → Int32 → Option (Int32 × Mm)) (u : Mm) (a0 : Nat) (x3 : Int32) (x4 : Int32) (x5 : Int32) (x6 : Int32) : Option (Int32 × Mm) := (if (x5 : Int32) = ((-1)) then some (x4, u) else oK u a0 9 54 (oNn (mR u a0 41) (fun e1 => oA u e1 12 (((2 : Int32) * x5) + x6) (oI (mI u e1 (Int32.toNatClampNeg (((2 : Int32) * x5) + x6))) (fun v2 => (if (v2 : Int32) = 0 then oK u a0 9 54 (oNn (mR u a0 41) (fun e3 => oA u e3 12 (((2 : Int32) * x5) + x6) (oZ 1 (oU (wI u e3 (upd (mI u e3) (Int32.toNatClampNeg (((2 : Int32) * x5) + x6)) 1)) (fun u4 => oB (fX9_is u4 x3 x5) (fun v5 u6 => (if (v5 : Int32) = 0 then oK u6 a0 9 54 (oNn (mR u6 a0 3) (fun e7 => oA u6 e7 10 (((51 : Int32) + ((2 : Int32) * x5)) + x6) (oI (mI u6 e7 (Int32.toNatClampNeg (((51 : Int32) + ((2 : Int32) * x5)) + x6))) (fun v8 => bX9_chainOf_102 k33 u6 a0 x3 (x4 + 1) x6 v8)))) else bX9_chainOf_102 k33 u6 a0 x3 (x4 + 1) x6 ((-1))))))))) else some (-x4, u)))))))
set_option maxRecDepth 100000 in
set_option maxHeartbeats 4000000 in
theorem pX9_chainOf_33 {r : Int32} {u' : Mm} {k33 : Mm → Nat → Int32 → Int32 → Int32 → Int32 → Option (Int32 × Mm)} (hk33 : ∀ (u : Mm) (a0 : Nat) (x3 : Int32) (x4 : Int32) (x5 : Int32) (x6 : Int32), k33 u a0 x3 x4 x5 x6 = some (r, u') → Eg MX9_chainOf 1 0 0 (some (.int r), u') 33 [(0, .ref a0), (3, .int x3), (4, .int x4), (5, .int x5), (6, .int x6)] [] u) (u : Mm) (a0 : Nat) (x3 : Int32) (x4 : Int32) (x5 : Int32) (x6 : Int32) (h : bX9_chainOf_33 k33 u a0 x3 x4 x5 x6 = some (r, u')) : Eg MX9_chainOf 1 0 0 (some (.int r), u') 33 [(0, .ref a0), (3, .int x3), (4, .int x4), (5, .int x5), (6, .int x6)] [] u := by
  unfold bX9_chainOf_33 at h
  refine E_iload dX9_chainOf_33 rfl ?_
  refine E_iconst (v := (-1)) dX9_chainOf_35 (by decide) ?_
  refine E_ic_eq (tgt := 113) h dX9_chainOf_36 (by decide) (fun h => ?_) (fun h => ?_)
  · refine E_iload dX9_chainOf_113 rfl ?_
    exact E_iret h dX9_chainOf_115 rfl
  · refine E_aload_n dX9_chainOf_39 rfl rfl ?_
    refine E_getA h dX9_chainOf_40 cf9 lk_X9_108 (by decide) (fun _ _ _ => rfl) (fun e1 h => ?_)
    refine E_iconst (v := 2) dX9_chainOf_43 (by decide) ?_
    refine E_iload dX9_chainOf_44 rfl ?_
    refine E_imul dX9_chainOf_46 ?_
    refine E_iload dX9_chainOf_47 rfl ?_
    refine E_iadd dX9_chainOf_49 ?_
    refine E_zald h dX9_chainOf_50 (fun h => ?_)
    refine E_oI h (fun v2 h => ?_)
    refine E_if_eq (tgt := 58) h dX9_chainOf_51 (by decide) (fun h => ?_) (fun h => ?_)
    · refine E_aload_n dX9_chainOf_58 rfl rfl ?_
      refine E_getA h dX9_chainOf_59 cf9 lk_X9_108 (by decide) (fun _ _ _ => rfl) (fun e3 h => ?_)
      refine E_iconst (v := 2) dX9_chainOf_62 (by decide) ?_
      refine E_iload dX9_chainOf_63 rfl ?_
      refine E_imul dX9_chainOf_65 ?_
      refine E_iload dX9_chainOf_66 rfl ?_
      refine E_iadd dX9_chainOf_68 ?_
      refine E_iconst (v := 1) dX9_chainOf_69 (by decide) ?_
      refine E_zast h dX9_chainOf_70 (fun h => ?_)
      refine E_oU h (fun u4 h => ?_)
      refine E_iinc (j := 2) (v := x4 + 1) (l' := [(4, .int (x4 + 1)), (0, .ref a0), (3, .int x3), (5, .int x5), (6, .int x6)]) dX9_chainOf_71 rfl (addI (by decide)) (Nat.le_of_ble_eq_true rfl) rfl ?_
      refine E_iload_n dX9_chainOf_74 rfl rfl ?_
      refine E_iload dX9_chainOf_75 rfl ?_
      refine F_Si h (fun a m e => tX9_is e) dX9_chainOf_77 hm_X9_is hs_X9_is ln_X9_442 rfl rfl (Nat.le_of_ble_eq_true rfl) (Nat.le_of_ble_eq_true rfl) (kc' := 0) (ks' := 0) rfl rfl (fun v5 u6 h => ?_)
      refine E_if_eq (tgt := 87) h dX9_chainOf_80 (by decide) (fun h => ?_) (fun h => ?_)
      · refine E_aload_n dX9_chainOf_87 rfl rfl ?_
        refine E_getA h dX9_chainOf_88 cf9 lk_X9_13 (by decide) (fun _ _ _ => rfl) (fun e7 h => ?_)
        refine E_bipush (v := 51) dX9_chainOf_91 (by decide) ?_
        refine E_iconst (v := 2) dX9_chainOf_93 (by decide) ?_
        refine E_iload dX9_chainOf_94 rfl ?_
        refine E_imul dX9_chainOf_96 ?_
        refine E_iadd dX9_chainOf_97 ?_
        refine E_iload dX9_chainOf_98 rfl ?_
        refine E_iadd dX9_chainOf_100 ?_
        refine E_iald h dX9_chainOf_101 (fun h => ?_)
        refine E_oI h (fun v8 h => ?_)
        refine Eg.pick [1, 2, 0, 4] rfl ?_
        exact pX9_chainOf_102 hk33 _ _ _ _ _ _ h
      · refine E_iconst (v := (-1)) dX9_chainOf_83 (by decide) ?_
        refine E_goto (tgt := 102) dX9_chainOf_84 (by decide) ?_
        refine Eg.pick [1, 2, 0, 4] rfl ?_
        exact pX9_chainOf_102 hk33 _ _ _ _ _ _ h
    · refine E_iload dX9_chainOf_54 rfl ?_
      refine E_ineg dX9_chainOf_56 ?_
      exact E_iret h dX9_chainOf_57 rfl
def rX9_chainOf_33 : Nat → Mm → Nat → Int32 → Int32 → Int32 → Int32 → Option (Int32 × Mm)
  | 0, _, _, _, _, _, _ => none
  | n + 1, u, a0, x3, x4, x5, x6 => bX9_chainOf_33 (rX9_chainOf_33 n) u a0 x3 x4 x5 x6
theorem prX9_chainOf_33 {r : Int32} {u' : Mm} : ∀ (n : Nat) (u : Mm) (a0 : Nat) (x3 : Int32) (x4 : Int32) (x5 : Int32) (x6 : Int32), rX9_chainOf_33 n u a0 x3 x4 x5 x6 = some (r, u') → Eg MX9_chainOf 1 0 0 (some (.int r), u') 33 [(0, .ref a0), (3, .int x3), (4, .int x4), (5, .int x5), (6, .int x6)] [] u
  | 0, _, _, _, _, _, _, h => by cases h
  | n + 1, u, a0, x3, x4, x5, x6, h => pX9_chainOf_33 (prX9_chainOf_33 n) u a0 x3 x4 x5 x6 h
def bX9_chainOf_3 (k3 : Mm → Nat → Int32 → Int32 → Int32 → Int32 → Option (Int32 × Mm)) (u : Mm) (a0 : Nat) (x1 : Int32) (x2 : Int32) (x3 : Int32) (x4 : Int32) : Option (Int32 × Mm) := (if (16 : Int32) ≤ x4 then rX9_chainOf_33 hwF u a0 x3 0 x1 x2 else oK u a0 9 54 (oNn (mR u a0 41) (fun e10 => oA u e10 12 x4 (oZ 0 (oU (wI u e10 (upd (mI u e10) (Int32.toNatClampNeg x4) 0)) (fun u11 => k3 u11 a0 x1 x2 x3 (x4 + 1)))))))
set_option maxRecDepth 100000 in
set_option maxHeartbeats 4000000 in
theorem pX9_chainOf_3 {r : Int32} {u' : Mm} {k3 : Mm → Nat → Int32 → Int32 → Int32 → Int32 → Option (Int32 × Mm)} (hk3 : ∀ (u : Mm) (a0 : Nat) (x1 : Int32) (x2 : Int32) (x3 : Int32) (x4 : Int32), k3 u a0 x1 x2 x3 x4 = some (r, u') → Eg MX9_chainOf 1 0 0 (some (.int r), u') 3 [(0, .ref a0), (1, .int x1), (2, .int x2), (3, .int x3), (4, .int x4)] [] u) (u : Mm) (a0 : Nat) (x1 : Int32) (x2 : Int32) (x3 : Int32) (x4 : Int32) (h : bX9_chainOf_3 k3 u a0 x1 x2 x3 x4 = some (r, u')) : Eg MX9_chainOf 1 0 0 (some (.int r), u') 3 [(0, .ref a0), (1, .int x1), (2, .int x2), (3, .int x3), (4, .int x4)] [] u := by
  unfold bX9_chainOf_3 at h
  refine E_iload dX9_chainOf_3 rfl ?_
  refine E_bipush (v := 16) dX9_chainOf_5 (by decide) ?_
  refine E_ic_ge (tgt := 24) h dX9_chainOf_7 (by decide) (fun h => ?_) (fun h => ?_)
  · refine E_iconst (v := 0) dX9_chainOf_24 (by decide) ?_
    refine E_istore (l' := [(4, .int 0), (0, .ref a0), (1, .int x1), (2, .int x2), (3, .int x3)]) dX9_chainOf_25 (Nat.le_of_ble_eq_true rfl) rfl ?_
    refine E_iload_n dX9_chainOf_27 rfl rfl ?_
    refine E_istore (l' := [(5, .int x1), (4, .int 0), (0, .ref a0), (1, .int x1), (2, .int x2), (3, .int x3)]) dX9_chainOf_28 (Nat.le_of_ble_eq_true rfl) rfl ?_
    refine E_iload_n dX9_chainOf_30 rfl rfl ?_
    refine E_istore (l' := [(6, .int x2), (5, .int x1), (4, .int 0), (0, .ref a0), (1, .int x1), (2, .int x2), (3, .int x3)]) dX9_chainOf_31 (Nat.le_of_ble_eq_true rfl) rfl ?_
    refine Eg.pick [3, 6, 2, 1, 0] rfl ?_
    exact prX9_chainOf_33 _ _ _ _ _ _ _ h
  · refine E_aload_n dX9_chainOf_10 rfl rfl ?_
    refine E_getA h dX9_chainOf_11 cf9 lk_X9_108 (by decide) (fun _ _ _ => rfl) (fun e10 h => ?_)
    refine E_iload dX9_chainOf_14 rfl ?_
    refine E_iconst (v := 0) dX9_chainOf_16 (by decide) ?_
    refine E_zast h dX9_chainOf_17 (fun h => ?_)
    refine E_oU h (fun u11 h => ?_)
    refine E_iinc (j := 4) (v := x4 + 1) (l' := [(4, .int (x4 + 1)), (0, .ref a0), (1, .int x1), (2, .int x2), (3, .int x3)]) dX9_chainOf_18 rfl (addI (by decide)) (Nat.le_of_ble_eq_true rfl) rfl ?_
    refine E_goto (tgt := 3) dX9_chainOf_21 (by decide) ?_
    refine Eg.pick [1, 2, 3, 4, 0] rfl ?_
    exact hk3 _ _ _ _ _ _ h
def rX9_chainOf_3 : Nat → Mm → Nat → Int32 → Int32 → Int32 → Int32 → Option (Int32 × Mm)
  | 0, _, _, _, _, _, _ => none
  | n + 1, u, a0, x1, x2, x3, x4 => bX9_chainOf_3 (rX9_chainOf_3 n) u a0 x1 x2 x3 x4
theorem prX9_chainOf_3 {r : Int32} {u' : Mm} : ∀ (n : Nat) (u : Mm) (a0 : Nat) (x1 : Int32) (x2 : Int32) (x3 : Int32) (x4 : Int32), rX9_chainOf_3 n u a0 x1 x2 x3 x4 = some (r, u') → Eg MX9_chainOf 1 0 0 (some (.int r), u') 3 [(0, .ref a0), (1, .int x1), (2, .int x2), (3, .int x3), (4, .int x4)] [] u
  | 0, _, _, _, _, _, _, h => by cases h
  | n + 1, u, a0, x1, x2, x3, x4, h => pX9_chainOf_3 (prX9_chainOf_3 n) u a0 x1 x2 x3 x4 h
def fX9_chainOf (u : Mm) (a0 : Nat) (x1 : Int32) (x2 : Int32) (x3 : Int32) : Option (Int32 × Mm) := rX9_chainOf_3 hwF u a0 x1 x2 x3 0
set_option maxRecDepth 100000 in
set_option maxHeartbeats 4000000 in
theorem tX9_chainOf {u : Mm} {a0 : Nat} {x1 : Int32} {x2 : Int32} {x3 : Int32} {r : Int32} {u' : Mm} (h : fX9_chainOf u a0 x1 x2 x3 = some (r, u')) : Ev 1 MX9_chainOf 0 0 [.ref a0, .int x1, .int x2, .int x3] u (some (.int r), u') := by
  refine Ev.of (by decide +kernel) (Nat.le_of_ble_eq_true rfl) (show Eg MX9_chainOf 1 0 0 (some (.int r), u') 0 [(0, .ref a0), (1, .int x1), (2, .int x2), (3, .int x3)] [] u from ?_)
  unfold fX9_chainOf at h
  refine E_iconst (v := 0) dX9_chainOf_0 (by decide) ?_
  refine E_istore (l' := [(4, .int 0), (0, .ref a0), (1, .int x1), (2, .int x2), (3, .int x3)]) dX9_chainOf_1 (Nat.le_of_ble_eq_true rfl) rfl ?_
  refine Eg.pick [1, 2, 3, 4, 0] rfl ?_
  exact prX9_chainOf_3 _ _ _ _ _ _ _ h
