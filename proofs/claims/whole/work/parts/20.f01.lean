/-! ===== methods as functions, with their contracts (printed by program) ===== -/
def bX1_init_14 (k14 : Mm → Nat → Int32 → Option (Unit × Mm)) (u : Mm) (a0 : Nat) (x1 : Int32) : Option (Unit × Mm) := (if (2 : Int32) ≤ x1 then some ((), u) else oK u a0 1 1 (oNn (mR u a0 0) (fun e4 => oA u e4 10 ((24 : Int32) + x1) (oU (wI u e4 (upd (mI u e4) (Int32.toNatClampNeg ((24 : Int32) + x1)) 50)) (fun u5 => oK u5 a0 1 1 (oNn (mR u5 a0 0) (fun e6 => oA u5 e6 10 ((26 : Int32) + x1) (oU (wI u5 e6 (upd (mI u5 e6) (Int32.toNatClampNeg ((26 : Int32) + x1)) 20)) (fun u7 => k14 u7 a0 (x1 + 1))))))))))
set_option maxRecDepth 100000 in
set_option maxHeartbeats 4000000 in
theorem pX1_init_14 {r : Unit} {u' : Mm} {k14 : Mm → Nat → Int32 → Option (Unit × Mm)} (hk14 : ∀ (u : Mm) (a0 : Nat) (x1 : Int32), k14 u a0 x1 = some (r, u') → Eg MX1_init 1 0 0 (none, u') 14 [(0, .ref a0), (1, .int x1)] [] u) (u : Mm) (a0 : Nat) (x1 : Int32) (h : bX1_init_14 k14 u a0 x1 = some (r, u')) : Eg MX1_init 1 0 0 (none, u') 14 [(0, .ref a0), (1, .int x1)] [] u := by
  unfold bX1_init_14 at h
  refine E_iload_n dX1_init_14 rfl rfl ?_
  refine E_iconst (v := 2) dX1_init_15 (by decide) ?_
  refine E_ic_ge (tgt := 47) h dX1_init_16 (by decide) (fun h => ?_) (fun h => ?_)
  · exact E_vret h dX1_init_47 rfl
  · refine E_aload_n dX1_init_19 rfl rfl ?_
    refine E_getA h dX1_init_20 cf1 lk_X1_9 (by decide) (fun _ _ _ => rfl) (fun e4 h => ?_)
    refine E_bipush (v := 24) dX1_init_23 (by decide) ?_
    refine E_iload_n dX1_init_25 rfl rfl ?_
    refine E_iadd dX1_init_26 ?_
    refine E_bipush (v := 50) dX1_init_27 (by decide) ?_
    refine E_iast h dX1_init_29 (fun h => ?_)
    refine E_oU h (fun u5 h => ?_)
    refine E_aload_n dX1_init_30 rfl rfl ?_
    refine E_getA h dX1_init_31 cf1 lk_X1_9 (by decide) (fun _ _ _ => rfl) (fun e6 h => ?_)
    refine E_bipush (v := 26) dX1_init_34 (by decide) ?_
    refine E_iload_n dX1_init_36 rfl rfl ?_
    refine E_iadd dX1_init_37 ?_
    refine E_bipush (v := 20) dX1_init_38 (by decide) ?_
    refine E_iast h dX1_init_40 (fun h => ?_)
    refine E_oU h (fun u7 h => ?_)
    refine E_iinc (j := 1) (v := x1 + 1) (l' := [(1, .int (x1 + 1)), (0, .ref a0)]) dX1_init_41 rfl (addI (by decide)) (Nat.le_of_ble_eq_true rfl) rfl ?_
    refine E_goto (tgt := 14) dX1_init_44 (by decide) ?_
    refine Eg.pick [1, 0] rfl ?_
    exact hk14 _ _ _ h
def rX1_init_14 : Nat → Mm → Nat → Int32 → Option (Unit × Mm)
  | 0, _, _, _ => none
  | n + 1, u, a0, x1 => bX1_init_14 (rX1_init_14 n) u a0 x1
theorem prX1_init_14 {r : Unit} {u' : Mm} : ∀ (n : Nat) (u : Mm) (a0 : Nat) (x1 : Int32), rX1_init_14 n u a0 x1 = some (r, u') → Eg MX1_init 1 0 0 (none, u') 14 [(0, .ref a0), (1, .int x1)] [] u
  | 0, _, _, _, h => by cases h
  | n + 1, u, a0, x1, h => pX1_init_14 (prX1_init_14 n) u a0 x1 h
def fX1_init (u : Mm) (a0 : Nat) : Option (Unit × Mm) := oN 29 29 (oP (mN u) (fun e1 => oU (wN u 10 (Int32.toNatClampNeg 29)) (fun u2 => oK u2 a0 1 1 (oU (wR u2 a0 (va_up (mR u2 a0) 0 (some e1))) (fun u3 => rX1_init_14 hwF u3 a0 0)))))
set_option maxRecDepth 100000 in
set_option maxHeartbeats 4000000 in
theorem tX1_init {u : Mm} {a0 : Nat} {r : Unit} {u' : Mm} (h : fX1_init u a0 = some (r, u')) : Ev 1 MX1_init 1 29 [.ref a0] u (none, u') := by
  refine Ev.of (by decide +kernel) (Nat.le_of_ble_eq_true rfl) (show Eg MX1_init 1 1 29 (none, u') 0 [(0, .ref a0)] [] u from ?_)
  unfold fX1_init at h
  refine E_aload_n dX1_init_0 rfl rfl ?_
  refine E_objInit dX1_init_1 ln_X1_3 oi_2 oi_3 (Nat.le_of_ble_eq_true rfl) (Nat.le_of_ble_eq_true rfl) ?_
  refine E_aload_n dX1_init_4 rfl rfl ?_
  refine E_bipush (v := 29) dX1_init_5 (by decide) ?_
  refine E_newI h dX1_init_7 aw_int (by decide) (kc' := 0) (ks' := 0) rfl rfl (fun h => ?_)
  refine E_oP h (fun e1 h => ?_)
  refine E_oU h (fun u2 h => ?_)
  refine E_putR h dX1_init_9 cf1 lk_X1_9 (by decide) (Or.inr ⟨rfl, rfl, rfl, lkm_X1_9⟩) (Or.inr ⟨_, rfl⟩) (fun h => ?_)
  refine E_oU h (fun u3 h => ?_)
  refine E_iconst (v := 0) dX1_init_12 (by decide) ?_
  refine E_istore_n (l' := [(1, .int 0), (0, .ref a0)]) dX1_init_13 rfl (Nat.le_of_ble_eq_true rfl) rfl ?_
  refine Eg.pick [1, 0] rfl ?_
  exact prX1_init_14 _ _ _ _ h
def bX0_init_121 (k121 : Mm → Nat → Int32 → Option (Unit × Mm)) (u : Mm) (a0 : Nat) (x1 : Int32) : Option (Unit × Mm) := (if (16 : Int32) ≤ x1 then some ((), u) else oK u a0 0 16 (oNn (mR u a0 4) (fun e34 => oA u e34 10 x1 (oU (wI u e34 (upd (mI u e34) (Int32.toNatClampNeg x1) 5)) (fun u35 => k121 u35 a0 (x1 + 1))))))
set_option maxRecDepth 100000 in
set_option maxHeartbeats 4000000 in
theorem pX0_init_121 {r : Unit} {u' : Mm} {k121 : Mm → Nat → Int32 → Option (Unit × Mm)} (hk121 : ∀ (u : Mm) (a0 : Nat) (x1 : Int32), k121 u a0 x1 = some (r, u') → Eg MX0_init 2 0 0 (none, u') 121 [(0, .ref a0), (1, .int x1)] [] u) (u : Mm) (a0 : Nat) (x1 : Int32) (h : bX0_init_121 k121 u a0 x1 = some (r, u')) : Eg MX0_init 2 0 0 (none, u') 121 [(0, .ref a0), (1, .int x1)] [] u := by
  unfold bX0_init_121 at h
  refine E_iload_n dX0_init_121 rfl rfl ?_
  refine E_bipush (v := 16) dX0_init_122 (by decide) ?_
  refine E_ic_ge (tgt := 140) h dX0_init_124 (by decide) (fun h => ?_) (fun h => ?_)
  · exact E_vret h dX0_init_140 rfl
  · refine E_aload_n dX0_init_127 rfl rfl ?_
    refine E_getA h dX0_init_128 cf0 lk_X0_28 (by decide) (fun _ _ _ => rfl) (fun e34 h => ?_)
    refine E_iload_n dX0_init_131 rfl rfl ?_
    refine E_iconst (v := 5) dX0_init_132 (by decide) ?_
    refine E_iast h dX0_init_133 (fun h => ?_)
    refine E_oU h (fun u35 h => ?_)
    refine E_iinc (j := 1) (v := x1 + 1) (l' := [(1, .int (x1 + 1)), (0, .ref a0)]) dX0_init_134 rfl (addI (by decide)) (Nat.le_of_ble_eq_true rfl) rfl ?_
    refine E_goto (tgt := 121) dX0_init_137 (by decide) ?_
    refine Eg.pick [1, 0] rfl ?_
    exact hk121 _ _ _ h
def rX0_init_121 : Nat → Mm → Nat → Int32 → Option (Unit × Mm)
  | 0, _, _, _ => none
  | n + 1, u, a0, x1 => bX0_init_121 (rX0_init_121 n) u a0 x1
theorem prX0_init_121 {r : Unit} {u' : Mm} : ∀ (n : Nat) (u : Mm) (a0 : Nat) (x1 : Int32), rX0_init_121 n u a0 x1 = some (r, u') → Eg MX0_init 2 0 0 (none, u') 121 [(0, .ref a0), (1, .int x1)] [] u
  | 0, _, _, _, h => by cases h
  | n + 1, u, a0, x1, h => pX0_init_121 (prX0_init_121 n) u a0 x1 h
def bX0_init_100 (k100 : Mm → Nat → Int32 → Option (Unit × Mm)) (u : Mm) (a0 : Nat) (x1 : Int32) : Option (Unit × Mm) := (if (16 : Int32) ≤ x1 then rX0_init_121 hwF u a0 0 else oK u a0 0 16 (oNn (mR u a0 2) (fun e36 => oA u e36 10 x1 (oU (wI u e36 (upd (mI u e36) (Int32.toNatClampNeg x1) ((-1)))) (fun u37 => k100 u37 a0 (x1 + 1))))))
set_option maxRecDepth 100000 in
set_option maxHeartbeats 4000000 in
theorem pX0_init_100 {r : Unit} {u' : Mm} {k100 : Mm → Nat → Int32 → Option (Unit × Mm)} (hk100 : ∀ (u : Mm) (a0 : Nat) (x1 : Int32), k100 u a0 x1 = some (r, u') → Eg MX0_init 2 0 0 (none, u') 100 [(0, .ref a0), (1, .int x1)] [] u) (u : Mm) (a0 : Nat) (x1 : Int32) (h : bX0_init_100 k100 u a0 x1 = some (r, u')) : Eg MX0_init 2 0 0 (none, u') 100 [(0, .ref a0), (1, .int x1)] [] u := by
  unfold bX0_init_100 at h
  refine E_iload_n dX0_init_100 rfl rfl ?_
  refine E_bipush (v := 16) dX0_init_101 (by decide) ?_
  refine E_ic_ge (tgt := 119) h dX0_init_103 (by decide) (fun h => ?_) (fun h => ?_)
  · refine E_iconst (v := 0) dX0_init_119 (by decide) ?_
    refine E_istore_n (l' := [(1, .int 0), (0, .ref a0)]) dX0_init_120 rfl (Nat.le_of_ble_eq_true rfl) rfl ?_
    refine Eg.pick [1, 0] rfl ?_
    exact prX0_init_121 _ _ _ _ h
  · refine E_aload_n dX0_init_106 rfl rfl ?_
    refine E_getA h dX0_init_107 cf0 lk_X0_22 (by decide) (fun _ _ _ => rfl) (fun e36 h => ?_)
    refine E_iload_n dX0_init_110 rfl rfl ?_
    refine E_iconst (v := (-1)) dX0_init_111 (by decide) ?_
    refine E_iast h dX0_init_112 (fun h => ?_)
    refine E_oU h (fun u37 h => ?_)
    refine E_iinc (j := 1) (v := x1 + 1) (l' := [(1, .int (x1 + 1)), (0, .ref a0)]) dX0_init_113 rfl (addI (by decide)) (Nat.le_of_ble_eq_true rfl) rfl ?_
    refine E_goto (tgt := 100) dX0_init_116 (by decide) ?_
    refine Eg.pick [1, 0] rfl ?_
    exact hk100 _ _ _ h
def rX0_init_100 : Nat → Mm → Nat → Int32 → Option (Unit × Mm)
  | 0, _, _, _ => none
  | n + 1, u, a0, x1 => bX0_init_100 (rX0_init_100 n) u a0 x1
theorem prX0_init_100 {r : Unit} {u' : Mm} : ∀ (n : Nat) (u : Mm) (a0 : Nat) (x1 : Int32), rX0_init_100 n u a0 x1 = some (r, u') → Eg MX0_init 2 0 0 (none, u') 100 [(0, .ref a0), (1, .int x1)] [] u
  | 0, _, _, _, h => by cases h
  | n + 1, u, a0, x1, h => pX0_init_100 (prX0_init_100 n) u a0 x1 h
def fX0_init (u : Mm) (a0 : Nat) : Option (Unit × Mm) := oP (mN u) (fun e1 => oU (wN u 1 1) (fun u2 => oB (fX1_init u2 e1) (fun _ u3 => oK u3 a0 0 16 (oU (wR u3 a0 (va_up (mR u3 a0) 0 (some e1))) (fun u4 => oN 16 16 (oP (mN u4) (fun e5 => oU (wN u4 10 (Int32.toNatClampNeg 16)) (fun u6 => oK u6 a0 0 16 (oU (wR u6 a0 (va_up (mR u6 a0) 1 (some e5))) (fun u7 => oN 16 16 (oP (mN u7) (fun e8 => oU (wN u7 10 (Int32.toNatClampNeg 16)) (fun u9 => oK u9 a0 0 16 (oU (wR u9 a0 (va_up (mR u9 a0) 2 (some e8))) (fun u10 => oN 16 16 (oP (mN u10) (fun e11 => oU (wN u10 10 (Int32.toNatClampNeg 16)) (fun u12 => oK u12 a0 0 16 (oU (wR u12 a0 (va_up (mR u12 a0) 3 (some e11))) (fun u13 => oN 16 16 (oP (mN u13) (fun e14 => oU (wN u13 10 (Int32.toNatClampNeg 16)) (fun u15 => oK u15 a0 0 16 (oU (wR u15 a0 (va_up (mR u15 a0) 4 (some e14))) (fun u16 => oN 8 8 (oP (mN u16) (fun e17 => oU (wN u16 10 (Int32.toNatClampNeg 8)) (fun u18 => oK u18 a0 0 16 (oU (wR u18 a0 (va_up (mR u18 a0) 5 (some e17))) (fun u19 => oN 8 8 (oP (mN u19) (fun e20 => oU (wN u19 10 (Int32.toNatClampNeg 8)) (fun u21 => oK u21 a0 0 16 (oU (wR u21 a0 (va_up (mR u21 a0) 6 (some e20))) (fun u22 => oN 6 6 (oP (mN u22) (fun e23 => oU (wN u22 10 (Int32.toNatClampNeg 6)) (fun u24 => oK u24 a0 0 16 (oU (wR u24 a0 (va_up (mR u24 a0) 8 (some e23))) (fun u25 => oN 6 6 (oP (mN u25) (fun e26 => oU (wN u25 10 (Int32.toNatClampNeg 6)) (fun u27 => oK u27 a0 0 16 (oU (wR u27 a0 (va_up (mR u27 a0) 9 (some e26))) (fun u28 => oK u28 a0 0 16 (oU (wI u28 a0 (upd (mI u28 a0) 11 3)) (fun u29 => oN 6 6 (oP (mN u29) (fun e30 => oU (wN u29 14 (Int32.toNatClampNeg 6)) (fun u31 => oK u31 a0 0 16 (oU (wR u31 a0 (va_up (mR u31 a0) 13 (some e30))) (fun u32 => oK u32 a0 0 16 (oU (wI u32 a0 (upd (mI u32 a0) 15 ((-1)))) (fun u33 => rX0_init_100 hwF u33 a0 0))))))))))))))))))))))))))))))))))))))))))))))))))))))
set_option maxRecDepth 100000 in
set_option maxHeartbeats 4000000 in
theorem tX0_init {u : Mm} {a0 : Nat} {r : Unit} {u' : Mm} (h : fX0_init u a0 = some (r, u')) : Ev 2 MX0_init 11 128 [.ref a0] u (none, u') := by
  refine Ev.of (by decide +kernel) (Nat.le_of_ble_eq_true rfl) (show Eg MX0_init 2 11 128 (none, u') 0 [(0, .ref a0)] [] u from ?_)
  unfold fX0_init at h
  refine E_aload_n dX0_init_0 rfl rfl ?_
  refine E_objInit dX0_init_1 ln_X0_3 oi_2 oi_3 (Nat.le_of_ble_eq_true rfl) (Nat.le_of_ble_eq_true rfl) ?_
  refine E_aload_n dX0_init_4 rfl rfl ?_
  refine E_new dX0_init_5 cf1 cl_X0_9 in_X1 ini_X1 nf_X1 (kc' := 10) (ks' := 127) rfl rfl ?_
  refine E_oP h (fun e1 h => ?_)
  refine E_oU h (fun u2 h => ?_)
  refine E_dup dX0_init_8 rfl ?_
  refine F_Iv h (fun m e => tX1_init e) rfl dX0_init_9 hm_X1_init rfl hi_X1_init ln_X0_11 rfl rfl (Nat.le_of_ble_eq_true rfl) (Nat.le_of_ble_eq_true rfl) (kc' := 9) (ks' := 98) rfl rfl (fun u3 h => ?_)
  refine E_putR h dX0_init_12 cf0 lk_X0_12 (by decide) (Or.inr ⟨rfl, rfl, rfl, lkm_X0_12⟩) (Or.inl ⟨_, rfl⟩) (fun h => ?_)
  refine E_oU h (fun u4 h => ?_)
  refine E_aload_n dX0_init_15 rfl rfl ?_
  refine E_bipush (v := 16) dX0_init_16 (by decide) ?_
  refine E_newI h dX0_init_18 aw_int (by decide) (kc' := 8) (ks' := 82) rfl rfl (fun h => ?_)
  refine E_oP h (fun e5 h => ?_)
  refine E_oU h (fun u6 h => ?_)
  refine E_putR h dX0_init_20 cf0 lk_X0_18 (by decide) (Or.inr ⟨rfl, rfl, rfl, lkm_X0_18⟩) (Or.inr ⟨_, rfl⟩) (fun h => ?_)
  refine E_oU h (fun u7 h => ?_)
  refine E_aload_n dX0_init_23 rfl rfl ?_
  refine E_bipush (v := 16) dX0_init_24 (by decide) ?_
  refine E_newI h dX0_init_26 aw_int (by decide) (kc' := 7) (ks' := 66) rfl rfl (fun h => ?_)
  refine E_oP h (fun e8 h => ?_)
  refine E_oU h (fun u9 h => ?_)
  refine E_putR h dX0_init_28 cf0 lk_X0_22 (by decide) (Or.inr ⟨rfl, rfl, rfl, lkm_X0_22⟩) (Or.inr ⟨_, rfl⟩) (fun h => ?_)
  refine E_oU h (fun u10 h => ?_)
  refine E_aload_n dX0_init_31 rfl rfl ?_
  refine E_bipush (v := 16) dX0_init_32 (by decide) ?_
  refine E_newI h dX0_init_34 aw_int (by decide) (kc' := 6) (ks' := 50) rfl rfl (fun h => ?_)
  refine E_oP h (fun e11 h => ?_)
  refine E_oU h (fun u12 h => ?_)
  refine E_putR h dX0_init_36 cf0 lk_X0_25 (by decide) (Or.inr ⟨rfl, rfl, rfl, lkm_X0_25⟩) (Or.inr ⟨_, rfl⟩) (fun h => ?_)
  refine E_oU h (fun u13 h => ?_)
  refine E_aload_n dX0_init_39 rfl rfl ?_
  refine E_bipush (v := 16) dX0_init_40 (by decide) ?_
  refine E_newI h dX0_init_42 aw_int (by decide) (kc' := 5) (ks' := 34) rfl rfl (fun h => ?_)
  refine E_oP h (fun e14 h => ?_)
  refine E_oU h (fun u15 h => ?_)
  refine E_putR h dX0_init_44 cf0 lk_X0_28 (by decide) (Or.inr ⟨rfl, rfl, rfl, lkm_X0_28⟩) (Or.inr ⟨_, rfl⟩) (fun h => ?_)
  refine E_oU h (fun u16 h => ?_)
  refine E_aload_n dX0_init_47 rfl rfl ?_
  refine E_bipush (v := 8) dX0_init_48 (by decide) ?_
  refine E_newI h dX0_init_50 aw_int (by decide) (kc' := 4) (ks' := 26) rfl rfl (fun h => ?_)
  refine E_oP h (fun e17 h => ?_)
  refine E_oU h (fun u18 h => ?_)
  refine E_putR h dX0_init_52 cf0 lk_X0_31 (by decide) (Or.inr ⟨rfl, rfl, rfl, lkm_X0_31⟩) (Or.inr ⟨_, rfl⟩) (fun h => ?_)
  refine E_oU h (fun u19 h => ?_)
  refine E_aload_n dX0_init_55 rfl rfl ?_
  refine E_bipush (v := 8) dX0_init_56 (by decide) ?_
  refine E_newI h dX0_init_58 aw_int (by decide) (kc' := 3) (ks' := 18) rfl rfl (fun h => ?_)
  refine E_oP h (fun e20 h => ?_)
  refine E_oU h (fun u21 h => ?_)
  refine E_putR h dX0_init_60 cf0 lk_X0_34 (by decide) (Or.inr ⟨rfl, rfl, rfl, lkm_X0_34⟩) (Or.inr ⟨_, rfl⟩) (fun h => ?_)
  refine E_oU h (fun u22 h => ?_)
  refine E_aload_n dX0_init_63 rfl rfl ?_
  refine E_bipush (v := 6) dX0_init_64 (by decide) ?_
  refine E_newI h dX0_init_66 aw_int (by decide) (kc' := 2) (ks' := 12) rfl rfl (fun h => ?_)
  refine E_oP h (fun e23 h => ?_)
  refine E_oU h (fun u24 h => ?_)
  refine E_putR h dX0_init_68 cf0 lk_X0_37 (by decide) (Or.inr ⟨rfl, rfl, rfl, lkm_X0_37⟩) (Or.inr ⟨_, rfl⟩) (fun h => ?_)
  refine E_oU h (fun u25 h => ?_)
  refine E_aload_n dX0_init_71 rfl rfl ?_
  refine E_bipush (v := 6) dX0_init_72 (by decide) ?_
  refine E_newI h dX0_init_74 aw_int (by decide) (kc' := 1) (ks' := 6) rfl rfl (fun h => ?_)
  refine E_oP h (fun e26 h => ?_)
  refine E_oU h (fun u27 h => ?_)
  refine E_putR h dX0_init_76 cf0 lk_X0_40 (by decide) (Or.inr ⟨rfl, rfl, rfl, lkm_X0_40⟩) (Or.inr ⟨_, rfl⟩) (fun h => ?_)
  refine E_oU h (fun u28 h => ?_)
  refine E_aload_n dX0_init_79 rfl rfl ?_
  refine E_iconst (v := 3) dX0_init_80 (by decide) ?_
  refine E_putI h dX0_init_81 cf0 lk_X0_43 (by decide) (Or.inl rfl) rfl (fun h => ?_)
  refine E_oU h (fun u29 h => ?_)
  refine E_aload_n dX0_init_84 rfl rfl ?_
  refine E_bipush (v := 6) dX0_init_85 (by decide) ?_
  refine E_newQ (kd := 14) (t0 := 4) (fun _ => rfl) (Or.inr rfl) (by decide) cl_X0_47 ao_14 h dX0_init_87 (kc' := 0) (ks' := 0) rfl rfl (fun h => ?_)
  refine E_oP h (fun e30 h => ?_)
  refine E_oU h (fun u31 h => ?_)
  refine E_putR h dX0_init_90 cf0 lk_X0_49 (by decide) (Or.inr ⟨rfl, rfl, rfl, lkm_X0_49⟩) (Or.inr ⟨_, rfl⟩) (fun h => ?_)
  refine E_oU h (fun u32 h => ?_)
  refine E_aload_n dX0_init_93 rfl rfl ?_
  refine E_iconst (v := (-1)) dX0_init_94 (by decide) ?_
  refine E_putI h dX0_init_95 cf0 lk_X0_53 (by decide) (Or.inl rfl) rfl (fun h => ?_)
  refine E_oU h (fun u33 h => ?_)
  refine E_iconst (v := 0) dX0_init_98 (by decide) ?_
  refine E_istore_n (l' := [(1, .int 0), (0, .ref a0)]) dX0_init_99 rfl (Nat.le_of_ble_eq_true rfl) rfl ?_
  refine Eg.pick [1, 0] rfl ?_
  exact prX0_init_100 _ _ _ _ h
def fX1_copyFrom (u : Mm) (a0 : Nat) (a1 : Nat) : Option (Unit × Mm) := oK u a1 1 1 (oNn (mR u a1 0) (fun e1 => oK u a0 1 1 (oNn (mR u a0 0) (fun e2 => oC u e1 e2 0 0 29 (oU (wI u e2 (va_cpy (mI u e1) (mI u e2) (Int32.toNatClampNeg 0) (Int32.toNatClampNeg 0) (Int32.toNatClampNeg 29))) (fun u3 => some ((), u3)))))))
set_option maxRecDepth 100000 in
set_option maxHeartbeats 4000000 in
theorem tX1_copyFrom {u : Mm} {a0 : Nat} {a1 : Nat} {r : Unit} {u' : Mm} (h : fX1_copyFrom u a0 a1 = some (r, u')) : Ev 1 MX1_copyFrom 0 0 [.ref a0, .ref a1] u (none, u') := by
  refine Ev.of (by decide +kernel) (Nat.le_of_ble_eq_true rfl) (show Eg MX1_copyFrom 1 0 0 (none, u') 0 [(0, .ref a0), (1, .ref a1)] [] u from ?_)
  unfold fX1_copyFrom at h
  refine E_aload_n dX1_copyFrom_0 rfl rfl ?_
  refine E_getA h dX1_copyFrom_1 cf1 lk_X1_9 (by decide) (fun _ _ _ => rfl) (fun e1 h => ?_)
  refine E_iconst (v := 0) dX1_copyFrom_4 (by decide) ?_
  refine E_aload_n dX1_copyFrom_5 rfl rfl ?_
  refine E_getA h dX1_copyFrom_6 cf1 lk_X1_9 (by decide) (fun _ _ _ => rfl) (fun e2 h => ?_)
  refine E_iconst (v := 0) dX1_copyFrom_9 (by decide) ?_
  refine E_bipush (v := 29) dX1_copyFrom_10 (by decide) ?_
  refine E_copy h dX1_copyFrom_12 ln_X1_15 ac_2 ac_3 ac_4 (Nat.le_of_ble_eq_true rfl) (Nat.le_of_ble_eq_true rfl) (fun h => ?_)
  refine E_oU h (fun u3 h => ?_)
  exact E_vret h dX1_copyFrom_15 rfl
def bX0_copyFrom_177 (k177 : Mm → Nat → Nat → Int32 → Option (Unit × Mm)) (u : Mm) (a0 : Nat) (a1 : Nat) (x2 : Int32) : Option (Unit × Mm) := (if (6 : Int32) ≤ x2 then oK u a1 0 16 (oI (mI u a1 14) (fun v40 => oK u a0 0 16 (oU (wI u a0 (upd (mI u a0) 14 v40)) (fun u41 => oK u41 a1 0 16 (oI (mI u41 a1 15) (fun v42 => oK u41 a0 0 16 (oU (wI u41 a0 (upd (mI u41 a0) 15 v42)) (fun u43 => some ((), u43))))))))) else oK u a0 0 16 (oNn (mR u a0 13) (fun e44 => oK u a1 0 16 (oNn (mR u a1 13) (fun e45 => oA u e45 14 x2 (oA u e44 14 x2 (oS u (mR u e45 (Int32.toNatClampNeg x2)) 6 (oU (wR u e44 (va_up (mR u e44) (Int32.toNatClampNeg x2) (mR u e45 (Int32.toNatClampNeg x2)))) (fun u46 => k177 u46 a0 a1 (x2 + 1))))))))))
set_option maxRecDepth 100000 in
set_option maxHeartbeats 4000000 in
theorem pX0_copyFrom_177 {r : Unit} {u' : Mm} {k177 : Mm → Nat → Nat → Int32 → Option (Unit × Mm)} (hk177 : ∀ (u : Mm) (a0 : Nat) (a1 : Nat) (x2 : Int32), k177 u a0 a1 x2 = some (r, u') → Eg MX0_copyFrom 2 0 0 (none, u') 177 [(0, .ref a0), (1, .ref a1), (2, .int x2)] [] u) (u : Mm) (a0 : Nat) (a1 : Nat) (x2 : Int32) (h : bX0_copyFrom_177 k177 u a0 a1 x2 = some (r, u')) : Eg MX0_copyFrom 2 0 0 (none, u') 177 [(0, .ref a0), (1, .ref a1), (2, .int x2)] [] u := by
  unfold bX0_copyFrom_177 at h
  refine E_iload_n dX0_copyFrom_177 rfl rfl ?_
  refine E_bipush (v := 6) dX0_copyFrom_178 (by decide) ?_
  refine E_ic_ge (tgt := 201) h dX0_copyFrom_180 (by decide) (fun h => ?_) (fun h => ?_)
  · refine E_aload_n dX0_copyFrom_201 rfl rfl ?_
    refine E_aload_n dX0_copyFrom_202 rfl rfl ?_
    refine E_getI h dX0_copyFrom_203 cf0 lk_X0_75 (by decide) (fun _ _ _ => rfl) (fun h => ?_)
    refine E_oI h (fun v40 h => ?_)
    refine E_putI h dX0_copyFrom_206 cf0 lk_X0_75 (by decide) (Or.inl rfl) rfl (fun h => ?_)
    refine E_oU h (fun u41 h => ?_)
    refine E_aload_n dX0_copyFrom_209 rfl rfl ?_
    refine E_aload_n dX0_copyFrom_210 rfl rfl ?_
    refine E_getI h dX0_copyFrom_211 cf0 lk_X0_53 (by decide) (fun _ _ _ => rfl) (fun h => ?_)
    refine E_oI h (fun v42 h => ?_)
    refine E_putI h dX0_copyFrom_214 cf0 lk_X0_53 (by decide) (Or.inl rfl) rfl (fun h => ?_)
    refine E_oU h (fun u43 h => ?_)
    exact E_vret h dX0_copyFrom_217 rfl
  · refine E_aload_n dX0_copyFrom_183 rfl rfl ?_
    refine E_getA h dX0_copyFrom_184 cf0 lk_X0_49 (by decide) (fun _ _ _ => rfl) (fun e44 h => ?_)
    refine E_iload_n dX0_copyFrom_187 rfl rfl ?_
    refine E_aload_n dX0_copyFrom_188 rfl rfl ?_
    refine E_getA h dX0_copyFrom_189 cf0 lk_X0_49 (by decide) (fun _ _ _ => rfl) (fun e45 h => ?_)
    refine E_iload_n dX0_copyFrom_192 rfl rfl ?_
    refine E_aald14 h dX0_copyFrom_193 (fun h => ?_)
    refine E_aast (x := mR u e45 (Int32.toNatClampNeg x2)) (kd := 14) (t0 := 4) (ci := 6) (fun _ => rfl) (Or.inr rfl) rfl (by decide) h dX0_copyFrom_194 (fun h => ?_)
    refine E_oU h (fun u46 h => ?_)
    refine E_iinc (j := 2) (v := x2 + 1) (l' := [(2, .int (x2 + 1)), (0, .ref a0), (1, .ref a1)]) dX0_copyFrom_195 rfl (addI (by decide)) (Nat.le_of_ble_eq_true rfl) rfl ?_
    refine E_goto (tgt := 177) dX0_copyFrom_198 (by decide) ?_
    refine Eg.pick [1, 2, 0] rfl ?_
    exact hk177 _ _ _ _ h
def rX0_copyFrom_177 : Nat → Mm → Nat → Nat → Int32 → Option (Unit × Mm)
  | 0, _, _, _, _ => none
  | n + 1, u, a0, a1, x2 => bX0_copyFrom_177 (rX0_copyFrom_177 n) u a0 a1 x2
theorem prX0_copyFrom_177 {r : Unit} {u' : Mm} : ∀ (n : Nat) (u : Mm) (a0 : Nat) (a1 : Nat) (x2 : Int32), rX0_copyFrom_177 n u a0 a1 x2 = some (r, u') → Eg MX0_copyFrom 2 0 0 (none, u') 177 [(0, .ref a0), (1, .ref a1), (2, .int x2)] [] u
  | 0, _, _, _, _, h => by cases h
  | n + 1, u, a0, a1, x2, h => pX0_copyFrom_177 (prX0_copyFrom_177 n) u a0 a1 x2 h
def fX0_copyFrom (u : Mm) (a0 : Nat) (a1 : Nat) : Option (Unit × Mm) := oK u a0 0 16 (oNn (mR u a0 0) (fun e1 => oK u a1 0 16 (oNn (mR u a1 0) (fun e2 => oR u e1 1 (oB (fX1_copyFrom u e1 e2) (fun _ u3 => oK u3 a1 0 16 (oNn (mR u3 a1 1) (fun e4 => oK u3 a0 0 16 (oNn (mR u3 a0 1) (fun e5 => oK u3 a0 0 16 (oNn (mR u3 a0 1) (fun e6 => oL u3 e6 (oC u3 e4 e5 0 0 (Int32.ofNat (mK u3 e6).2) (oU (wI u3 e5 (va_cpy (mI u3 e4) (mI u3 e5) (Int32.toNatClampNeg 0) (Int32.toNatClampNeg 0) (Int32.toNatClampNeg (Int32.ofNat (mK u3 e6).2)))) (fun u7 => oK u7 a1 0 16 (oNn (mR u7 a1 2) (fun e8 => oK u7 a0 0 16 (oNn (mR u7 a0 2) (fun e9 => oK u7 a0 0 16 (oNn (mR u7 a0 2) (fun e10 => oL u7 e10 (oC u7 e8 e9 0 0 (Int32.ofNat (mK u7 e10).2) (oU (wI u7 e9 (va_cpy (mI u7 e8) (mI u7 e9) (Int32.toNatClampNeg 0) (Int32.toNatClampNeg 0) (Int32.toNatClampNeg (Int32.ofNat (mK u7 e10).2)))) (fun u11 => oK u11 a1 0 16 (oNn (mR u11 a1 3) (fun e12 => oK u11 a0 0 16 (oNn (mR u11 a0 3) (fun e13 => oK u11 a0 0 16 (oNn (mR u11 a0 3) (fun e14 => oL u11 e14 (oC u11 e12 e13 0 0 (Int32.ofNat (mK u11 e14).2) (oU (wI u11 e13 (va_cpy (mI u11 e12) (mI u11 e13) (Int32.toNatClampNeg 0) (Int32.toNatClampNeg 0) (Int32.toNatClampNeg (Int32.ofNat (mK u11 e14).2)))) (fun u15 => oK u15 a1 0 16 (oNn (mR u15 a1 4) (fun e16 => oK u15 a0 0 16 (oNn (mR u15 a0 4) (fun e17 => oK u15 a0 0 16 (oNn (mR u15 a0 4) (fun e18 => oL u15 e18 (oC u15 e16 e17 0 0 (Int32.ofNat (mK u15 e18).2) (oU (wI u15 e17 (va_cpy (mI u15 e16) (mI u15 e17) (Int32.toNatClampNeg 0) (Int32.toNatClampNeg 0) (Int32.toNatClampNeg (Int32.ofNat (mK u15 e18).2)))) (fun u19 => oK u19 a1 0 16 (oNn (mR u19 a1 5) (fun e20 => oK u19 a0 0 16 (oNn (mR u19 a0 5) (fun e21 => oC u19 e20 e21 0 0 8 (oU (wI u19 e21 (va_cpy (mI u19 e20) (mI u19 e21) (Int32.toNatClampNeg 0) (Int32.toNatClampNeg 0) (Int32.toNatClampNeg 8))) (fun u22 => oK u22 a1 0 16 (oNn (mR u22 a1 6) (fun e23 => oK u22 a0 0 16 (oNn (mR u22 a0 6) (fun e24 => oC u22 e23 e24 0 0 8 (oU (wI u22 e24 (va_cpy (mI u22 e23) (mI u22 e24) (Int32.toNatClampNeg 0) (Int32.toNatClampNeg 0) (Int32.toNatClampNeg 8))) (fun u25 => oK u25 a1 0 16 (oI (mI u25 a1 7) (fun v26 => oK u25 a0 0 16 (oU (wI u25 a0 (upd (mI u25 a0) 7 v26)) (fun u27 => oK u27 a1 0 16 (oNn (mR u27 a1 8) (fun e28 => oK u27 a0 0 16 (oNn (mR u27 a0 8) (fun e29 => oC u27 e28 e29 0 0 6 (oU (wI u27 e29 (va_cpy (mI u27 e28) (mI u27 e29) (Int32.toNatClampNeg 0) (Int32.toNatClampNeg 0) (Int32.toNatClampNeg 6))) (fun u30 => oK u30 a1 0 16 (oNn (mR u30 a1 9) (fun e31 => oK u30 a0 0 16 (oNn (mR u30 a0 9) (fun e32 => oC u30 e31 e32 0 0 6 (oU (wI u30 e32 (va_cpy (mI u30 e31) (mI u30 e32) (Int32.toNatClampNeg 0) (Int32.toNatClampNeg 0) (Int32.toNatClampNeg 6))) (fun u33 => oK u33 a1 0 16 (oI (mI u33 a1 10) (fun v34 => oK u33 a0 0 16 (oU (wI u33 a0 (upd (mI u33 a0) 10 v34)) (fun u35 => oK u35 a1 0 16 (oI (mI u35 a1 11) (fun v36 => oK u35 a0 0 16 (oU (wI u35 a0 (upd (mI u35 a0) 11 v36)) (fun u37 => oK u37 a1 0 16 (oI (mI u37 a1 12) (fun v38 => oK u37 a0 0 16 (oU (wI u37 a0 (upd (mI u37 a0) 12 v38)) (fun u39 => rX0_copyFrom_177 hwF u39 a0 a1 0))))))))))))))))))))))))))))))))))))))))))))))))))))))))))))))))))))))))))))))))))
set_option maxRecDepth 100000 in
set_option maxHeartbeats 4000000 in
theorem tX0_copyFrom {u : Mm} {a0 : Nat} {a1 : Nat} {r : Unit} {u' : Mm} (h : fX0_copyFrom u a0 a1 = some (r, u')) : Ev 2 MX0_copyFrom 0 0 [.ref a0, .ref a1] u (none, u') := by
  refine Ev.of (by decide +kernel) (Nat.le_of_ble_eq_true rfl) (show Eg MX0_copyFrom 2 0 0 (none, u') 0 [(0, .ref a0), (1, .ref a1)] [] u from ?_)
  unfold fX0_copyFrom at h
  refine E_aload_n dX0_copyFrom_0 rfl rfl ?_
  refine E_getA h dX0_copyFrom_1 cf0 lk_X0_12 (by decide) (fun _ _ _ => rfl) (fun e1 h => ?_)
  refine E_aload_n dX0_copyFrom_4 rfl rfl ?_
  refine E_getA h dX0_copyFrom_5 cf0 lk_X0_12 (by decide) (fun _ _ _ => rfl) (fun e2 h => ?_)
  refine F_Vv h (fun m e => tX1_copyFrom e) dX0_copyFrom_8 hm_X1_copyFrom hv_X1_copyFrom ln_X0_56 rfl rfl (Nat.le_of_ble_eq_true rfl) (Nat.le_of_ble_eq_true rfl) (kc' := 0) (ks' := 0) rfl rfl (fun u3 h => ?_)
  refine E_aload_n dX0_copyFrom_11 rfl rfl ?_
  refine E_getA h dX0_copyFrom_12 cf0 lk_X0_18 (by decide) (fun _ _ _ => rfl) (fun e4 h => ?_)
  refine E_iconst (v := 0) dX0_copyFrom_15 (by decide) ?_
  refine E_aload_n dX0_copyFrom_16 rfl rfl ?_
  refine E_getA h dX0_copyFrom_17 cf0 lk_X0_18 (by decide) (fun _ _ _ => rfl) (fun e5 h => ?_)
  refine E_iconst (v := 0) dX0_copyFrom_20 (by decide) ?_
  refine E_aload_n dX0_copyFrom_21 rfl rfl ?_
  refine E_getA h dX0_copyFrom_22 cf0 lk_X0_18 (by decide) (fun _ _ _ => rfl) (fun e6 h => ?_)
  refine E_alen h dX0_copyFrom_25 (fun h => ?_)
  refine E_copy h dX0_copyFrom_26 ln_X0_60 ac_2 ac_3 ac_4 (Nat.le_of_ble_eq_true rfl) (Nat.le_of_ble_eq_true rfl) (fun h => ?_)
  refine E_oU h (fun u7 h => ?_)
  refine E_aload_n dX0_copyFrom_29 rfl rfl ?_
  refine E_getA h dX0_copyFrom_30 cf0 lk_X0_22 (by decide) (fun _ _ _ => rfl) (fun e8 h => ?_)
  refine E_iconst (v := 0) dX0_copyFrom_33 (by decide) ?_
  refine E_aload_n dX0_copyFrom_34 rfl rfl ?_
  refine E_getA h dX0_copyFrom_35 cf0 lk_X0_22 (by decide) (fun _ _ _ => rfl) (fun e9 h => ?_)
  refine E_iconst (v := 0) dX0_copyFrom_38 (by decide) ?_
  refine E_aload_n dX0_copyFrom_39 rfl rfl ?_
  refine E_getA h dX0_copyFrom_40 cf0 lk_X0_22 (by decide) (fun _ _ _ => rfl) (fun e10 h => ?_)
  refine E_alen h dX0_copyFrom_43 (fun h => ?_)
  refine E_copy h dX0_copyFrom_44 ln_X0_60 ac_2 ac_3 ac_4 (Nat.le_of_ble_eq_true rfl) (Nat.le_of_ble_eq_true rfl) (fun h => ?_)
  refine E_oU h (fun u11 h => ?_)
  refine E_aload_n dX0_copyFrom_47 rfl rfl ?_
  refine E_getA h dX0_copyFrom_48 cf0 lk_X0_25 (by decide) (fun _ _ _ => rfl) (fun e12 h => ?_)
  refine E_iconst (v := 0) dX0_copyFrom_51 (by decide) ?_
  refine E_aload_n dX0_copyFrom_52 rfl rfl ?_
  refine E_getA h dX0_copyFrom_53 cf0 lk_X0_25 (by decide) (fun _ _ _ => rfl) (fun e13 h => ?_)
  refine E_iconst (v := 0) dX0_copyFrom_56 (by decide) ?_
  refine E_aload_n dX0_copyFrom_57 rfl rfl ?_
  refine E_getA h dX0_copyFrom_58 cf0 lk_X0_25 (by decide) (fun _ _ _ => rfl) (fun e14 h => ?_)
  refine E_alen h dX0_copyFrom_61 (fun h => ?_)
  refine E_copy h dX0_copyFrom_62 ln_X0_60 ac_2 ac_3 ac_4 (Nat.le_of_ble_eq_true rfl) (Nat.le_of_ble_eq_true rfl) (fun h => ?_)
  refine E_oU h (fun u15 h => ?_)
  refine E_aload_n dX0_copyFrom_65 rfl rfl ?_
  refine E_getA h dX0_copyFrom_66 cf0 lk_X0_28 (by decide) (fun _ _ _ => rfl) (fun e16 h => ?_)
  refine E_iconst (v := 0) dX0_copyFrom_69 (by decide) ?_
  refine E_aload_n dX0_copyFrom_70 rfl rfl ?_
  refine E_getA h dX0_copyFrom_71 cf0 lk_X0_28 (by decide) (fun _ _ _ => rfl) (fun e17 h => ?_)
  refine E_iconst (v := 0) dX0_copyFrom_74 (by decide) ?_
  refine E_aload_n dX0_copyFrom_75 rfl rfl ?_
  refine E_getA h dX0_copyFrom_76 cf0 lk_X0_28 (by decide) (fun _ _ _ => rfl) (fun e18 h => ?_)
  refine E_alen h dX0_copyFrom_79 (fun h => ?_)
  refine E_copy h dX0_copyFrom_80 ln_X0_60 ac_2 ac_3 ac_4 (Nat.le_of_ble_eq_true rfl) (Nat.le_of_ble_eq_true rfl) (fun h => ?_)
  refine E_oU h (fun u19 h => ?_)
  refine E_aload_n dX0_copyFrom_83 rfl rfl ?_
  refine E_getA h dX0_copyFrom_84 cf0 lk_X0_31 (by decide) (fun _ _ _ => rfl) (fun e20 h => ?_)
  refine E_iconst (v := 0) dX0_copyFrom_87 (by decide) ?_
  refine E_aload_n dX0_copyFrom_88 rfl rfl ?_
  refine E_getA h dX0_copyFrom_89 cf0 lk_X0_31 (by decide) (fun _ _ _ => rfl) (fun e21 h => ?_)
  refine E_iconst (v := 0) dX0_copyFrom_92 (by decide) ?_
  refine E_bipush (v := 8) dX0_copyFrom_93 (by decide) ?_
  refine E_copy h dX0_copyFrom_95 ln_X0_60 ac_2 ac_3 ac_4 (Nat.le_of_ble_eq_true rfl) (Nat.le_of_ble_eq_true rfl) (fun h => ?_)
  refine E_oU h (fun u22 h => ?_)
  refine E_aload_n dX0_copyFrom_98 rfl rfl ?_
  refine E_getA h dX0_copyFrom_99 cf0 lk_X0_34 (by decide) (fun _ _ _ => rfl) (fun e23 h => ?_)
  refine E_iconst (v := 0) dX0_copyFrom_102 (by decide) ?_
  refine E_aload_n dX0_copyFrom_103 rfl rfl ?_
  refine E_getA h dX0_copyFrom_104 cf0 lk_X0_34 (by decide) (fun _ _ _ => rfl) (fun e24 h => ?_)
  refine E_iconst (v := 0) dX0_copyFrom_107 (by decide) ?_
  refine E_bipush (v := 8) dX0_copyFrom_108 (by decide) ?_
  refine E_copy h dX0_copyFrom_110 ln_X0_60 ac_2 ac_3 ac_4 (Nat.le_of_ble_eq_true rfl) (Nat.le_of_ble_eq_true rfl) (fun h => ?_)
  refine E_oU h (fun u25 h => ?_)
  refine E_aload_n dX0_copyFrom_113 rfl rfl ?_
  refine E_aload_n dX0_copyFrom_114 rfl rfl ?_
  refine E_getI h dX0_copyFrom_115 cf0 lk_X0_66 (by decide) (fun _ _ _ => rfl) (fun h => ?_)
  refine E_oI h (fun v26 h => ?_)
  refine E_putI h dX0_copyFrom_118 cf0 lk_X0_66 (by decide) (Or.inl rfl) rfl (fun h => ?_)
  refine E_oU h (fun u27 h => ?_)
  refine E_aload_n dX0_copyFrom_121 rfl rfl ?_
  refine E_getA h dX0_copyFrom_122 cf0 lk_X0_37 (by decide) (fun _ _ _ => rfl) (fun e28 h => ?_)
  refine E_iconst (v := 0) dX0_copyFrom_125 (by decide) ?_
  refine E_aload_n dX0_copyFrom_126 rfl rfl ?_
  refine E_getA h dX0_copyFrom_127 cf0 lk_X0_37 (by decide) (fun _ _ _ => rfl) (fun e29 h => ?_)
  refine E_iconst (v := 0) dX0_copyFrom_130 (by decide) ?_
  refine E_bipush (v := 6) dX0_copyFrom_131 (by decide) ?_
  refine E_copy h dX0_copyFrom_133 ln_X0_60 ac_2 ac_3 ac_4 (Nat.le_of_ble_eq_true rfl) (Nat.le_of_ble_eq_true rfl) (fun h => ?_)
  refine E_oU h (fun u30 h => ?_)
  refine E_aload_n dX0_copyFrom_136 rfl rfl ?_
  refine E_getA h dX0_copyFrom_137 cf0 lk_X0_40 (by decide) (fun _ _ _ => rfl) (fun e31 h => ?_)
  refine E_iconst (v := 0) dX0_copyFrom_140 (by decide) ?_
  refine E_aload_n dX0_copyFrom_141 rfl rfl ?_
  refine E_getA h dX0_copyFrom_142 cf0 lk_X0_40 (by decide) (fun _ _ _ => rfl) (fun e32 h => ?_)
  refine E_iconst (v := 0) dX0_copyFrom_145 (by decide) ?_
  refine E_bipush (v := 6) dX0_copyFrom_146 (by decide) ?_
  refine E_copy h dX0_copyFrom_148 ln_X0_60 ac_2 ac_3 ac_4 (Nat.le_of_ble_eq_true rfl) (Nat.le_of_ble_eq_true rfl) (fun h => ?_)
  refine E_oU h (fun u33 h => ?_)
  refine E_aload_n dX0_copyFrom_151 rfl rfl ?_
  refine E_aload_n dX0_copyFrom_152 rfl rfl ?_
  refine E_getI h dX0_copyFrom_153 cf0 lk_X0_69 (by decide) (fun _ _ _ => rfl) (fun h => ?_)
  refine E_oI h (fun v34 h => ?_)
  refine E_putI h dX0_copyFrom_156 cf0 lk_X0_69 (by decide) (Or.inl rfl) rfl (fun h => ?_)
  refine E_oU h (fun u35 h => ?_)
  refine E_aload_n dX0_copyFrom_159 rfl rfl ?_
  refine E_aload_n dX0_copyFrom_160 rfl rfl ?_
  refine E_getI h dX0_copyFrom_161 cf0 lk_X0_43 (by decide) (fun _ _ _ => rfl) (fun h => ?_)
  refine E_oI h (fun v36 h => ?_)
  refine E_putI h dX0_copyFrom_164 cf0 lk_X0_43 (by decide) (Or.inl rfl) rfl (fun h => ?_)
  refine E_oU h (fun u37 h => ?_)
  refine E_aload_n dX0_copyFrom_167 rfl rfl ?_
  refine E_aload_n dX0_copyFrom_168 rfl rfl ?_
  refine E_getI h dX0_copyFrom_169 cf0 lk_X0_72 (by decide) (fun _ _ _ => rfl) (fun h => ?_)
  refine E_oI h (fun v38 h => ?_)
  refine E_putI h dX0_copyFrom_172 cf0 lk_X0_72 (by decide) (Or.inl rfl) rfl (fun h => ?_)
  refine E_oU h (fun u39 h => ?_)
  refine E_iconst (v := 0) dX0_copyFrom_175 (by decide) ?_
  refine E_istore_n (l' := [(2, .int 0), (0, .ref a0), (1, .ref a1)]) dX0_copyFrom_176 rfl (Nat.le_of_ble_eq_true rfl) rfl ?_
  refine Eg.pick [1, 2, 0] rfl ?_
  exact prX0_copyFrom_177 _ _ _ _ _ h
def bX0_hasLaw_17 (u : Mm) (s0 : Int32) : Option (Int32 × Mm) := oZ s0 (some (s0, u))
set_option maxRecDepth 100000 in
set_option maxHeartbeats 4000000 in
theorem pX0_hasLaw_17 {r : Int32} {u' : Mm} (u : Mm) (s0 : Int32) (h : bX0_hasLaw_17 u s0 = some (r, u')) : Eg MX0_hasLaw 0 0 0 (some (.int r), u') 17 [] [.int s0] u := by
  unfold bX0_hasLaw_17 at h
  exact E_zret h dX0_hasLaw_17 rfl
def fX0_hasLaw (u : Mm) (a0 : Nat) (x1 : Int32) : Option (Int32 × Mm) := (if (x1 : Int32) < 0 then bX0_hasLaw_17 u 0 else oK u a0 0 16 (oI (mI u a0 14) (fun v1 => (if (v1 : Int32) ≤ x1 then bX0_hasLaw_17 u 0 else bX0_hasLaw_17 u 1))))
set_option maxRecDepth 100000 in
set_option maxHeartbeats 4000000 in
theorem tX0_hasLaw {u : Mm} {a0 : Nat} {x1 : Int32} {r : Int32} {u' : Mm} (h : fX0_hasLaw u a0 x1 = some (r, u')) : Ev 0 MX0_hasLaw 0 0 [.ref a0, .int x1] u (some (.int r), u') := by
  refine Ev.of (by decide +kernel) (Nat.le_of_ble_eq_true rfl) (show Eg MX0_hasLaw 0 0 0 (some (.int r), u') 0 [(0, .ref a0), (1, .int x1)] [] u from ?_)
  unfold fX0_hasLaw at h
  refine E_iload_n dX0_hasLaw_0 rfl rfl ?_
  refine E_if_lt (tgt := 16) h dX0_hasLaw_1 (by decide) (fun h => ?_) (fun h => ?_)
  · refine E_iconst (v := 0) dX0_hasLaw_16 (by decide) ?_
    refine Eg.pick [] rfl ?_
    exact pX0_hasLaw_17 _ _ h
  · refine E_iload_n dX0_hasLaw_4 rfl rfl ?_
    refine E_aload_n dX0_hasLaw_5 rfl rfl ?_
    refine E_getI h dX0_hasLaw_6 cf0 lk_X0_75 (by decide) (fun _ _ _ => rfl) (fun h => ?_)
    refine E_oI h (fun v1 h => ?_)
    refine E_ic_ge (tgt := 16) h dX0_hasLaw_9 (by decide) (fun h => ?_) (fun h => ?_)
    · refine E_iconst (v := 0) dX0_hasLaw_16 (by decide) ?_
      refine Eg.pick [] rfl ?_
      exact pX0_hasLaw_17 _ _ h
    · refine E_iconst (v := 1) dX0_hasLaw_12 (by decide) ?_
      refine E_goto (tgt := 17) dX0_hasLaw_13 (by decide) ?_
      refine Eg.pick [] rfl ?_
      exact pX0_hasLaw_17 _ _ h
def bX0_lawOf_18 (u : Mm) (s0 : Option Nat) : Option (Option Nat × Mm) := some (s0, u)
set_option maxRecDepth 100000 in
set_option maxHeartbeats 4000000 in
theorem pX0_lawOf_18 {r : Option Nat} {u' : Mm} (u : Mm) (s0 : Option Nat) (h : bX0_lawOf_18 u s0 = some (r, u')) : Eg MX0_lawOf 1 0 0 (some (va_rf r), u') 18 [] [va_rf s0] u := by
  unfold bX0_lawOf_18 at h
  exact E_aretQ (x := s0) h dX0_lawOf_18 rfl
def fX0_lawOf (u : Mm) (a0 : Nat) (x1 : Int32) : Option (Option Nat × Mm) := oR u a0 0 (oB (fX0_hasLaw u a0 x1) (fun v1 u2 => (if (v1 : Int32) = 0 then bX0_lawOf_18 u2 none else oK u2 a0 0 16 (oNn (mR u2 a0 13) (fun e3 => oA u2 e3 14 x1 (oNn (mR u2 e3 (Int32.toNatClampNeg x1)) (fun e4 => bX0_lawOf_18 u2 (some e4))))))))
set_option maxRecDepth 100000 in
set_option maxHeartbeats 4000000 in
theorem tX0_lawOf {u : Mm} {a0 : Nat} {x1 : Int32} {r : Option Nat} {u' : Mm} (h : fX0_lawOf u a0 x1 = some (r, u')) : Ev 1 MX0_lawOf 0 0 [.ref a0, .int x1] u (some (va_rf r), u') := by
  refine Ev.of (by decide +kernel) (Nat.le_of_ble_eq_true rfl) (show Eg MX0_lawOf 1 0 0 (some (va_rf r), u') 0 [(0, .ref a0), (1, .int x1)] [] u from ?_)
  unfold fX0_lawOf at h
  refine E_aload_n dX0_lawOf_0 rfl rfl ?_
  refine E_iload_n dX0_lawOf_1 rfl rfl ?_
  refine F_Vi h (fun a m e => tX0_hasLaw e) dX0_lawOf_2 hm_X0_hasLaw hv_X0_hasLaw ln_X0_78 rfl rfl (Nat.le_of_ble_eq_true rfl) (Nat.le_of_ble_eq_true rfl) (kc' := 0) (ks' := 0) rfl rfl (fun v1 u2 h => ?_)
  refine E_if_eq (tgt := 17) h dX0_lawOf_5 (by decide) (fun h => ?_) (fun h => ?_)
  · refine E_null dX0_lawOf_17 ?_
    refine Eg.pick [] rfl ?_
    exact pX0_lawOf_18 _ _ h
  · refine E_aload_n dX0_lawOf_8 rfl rfl ?_
    refine E_getA h dX0_lawOf_9 cf0 lk_X0_49 (by decide) (fun _ _ _ => rfl) (fun e3 h => ?_)
    refine E_iload_n dX0_lawOf_12 rfl rfl ?_
    refine E_aald14 h dX0_lawOf_13 (fun h => ?_)
    refine E_oNn h (fun e4 h => ?_)
    refine E_goto (tgt := 18) dX0_lawOf_14 (by decide) ?_
    refine Eg.pick [] rfl ?_
    exact pX0_lawOf_18 _ _ h
def fX0_lawInForce (u : Mm) (a0 : Nat) : Option (Option Nat × Mm) := oK u a0 0 16 (oI (mI u a0 15) (fun v1 => oR u a0 0 (oB (fX0_lawOf u a0 v1) (fun g2 u3 => some (g2, u3)))))
set_option maxRecDepth 100000 in
set_option maxHeartbeats 4000000 in
theorem tX0_lawInForce {u : Mm} {a0 : Nat} {r : Option Nat} {u' : Mm} (h : fX0_lawInForce u a0 = some (r, u')) : Ev 2 MX0_lawInForce 0 0 [.ref a0] u (some (va_rf r), u') := by
  refine Ev.of (by decide +kernel) (Nat.le_of_ble_eq_true rfl) (show Eg MX0_lawInForce 2 0 0 (some (va_rf r), u') 0 [(0, .ref a0)] [] u from ?_)
  unfold fX0_lawInForce at h
  refine E_aload_n dX0_lawInForce_0 rfl rfl ?_
  refine E_aload_n dX0_lawInForce_1 rfl rfl ?_
  refine E_getI h dX0_lawInForce_2 cf0 lk_X0_53 (by decide) (fun _ _ _ => rfl) (fun h => ?_)
  refine E_oI h (fun v1 h => ?_)
  refine F_Vq h (fun a m e => tX0_lawOf e) dX0_lawInForce_5 hm_X0_lawOf hv_X0_lawOf ln_X0_82 rfl rfl (Nat.le_of_ble_eq_true rfl) (Nat.le_of_ble_eq_true rfl) (kc' := 0) (ks' := 0) rfl rfl (fun g2 u3 h => ?_)
  exact E_aretQ (x := g2) h dX0_lawInForce_8 rfl
def fX1_theDay (u : Mm) (a0 : Nat) : Option (Int32 × Mm) := oK u a0 1 1 (oNn (mR u a0 0) (fun e1 => oA u e1 10 28 (oI (mI u e1 (Int32.toNatClampNeg 28)) (fun v2 => some (v2, u)))))
set_option maxRecDepth 100000 in
set_option maxHeartbeats 4000000 in
theorem tX1_theDay {u : Mm} {a0 : Nat} {r : Int32} {u' : Mm} (h : fX1_theDay u a0 = some (r, u')) : Ev 0 MX1_theDay 0 0 [.ref a0] u (some (.int r), u') := by
  refine Ev.of (by decide +kernel) (Nat.le_of_ble_eq_true rfl) (show Eg MX1_theDay 0 0 0 (some (.int r), u') 0 [(0, .ref a0)] [] u from ?_)
  unfold fX1_theDay at h
  refine E_aload_n dX1_theDay_0 rfl rfl ?_
  refine E_getA h dX1_theDay_1 cf1 lk_X1_9 (by decide) (fun _ _ _ => rfl) (fun e1 h => ?_)
  refine E_bipush (v := 28) dX1_theDay_4 (by decide) ?_
  refine E_iald h dX1_theDay_6 (fun h => ?_)
  refine E_oI h (fun v2 h => ?_)
  exact E_iret h dX1_theDay_7 rfl
def fX0_termOf (u : Mm) (a0 : Nat) (x1 : Int32) : Option (Int32 × Mm) := (if (x1 : Int32) = 0 then oK u a0 0 16 (oNn (mR u a0 0) (fun e1 => oR u e1 1 (oB (fX1_theDay u e1) (fun v2 u3 => some (v2, u3))))) else (if (x1 : Int32) = 1 then oK u a0 0 16 (oI (mI u a0 11) (fun v4 => some (v4, u))) else (if (x1 : Int32) = 2 then oK u a0 0 16 (oI (mI u a0 12) (fun v5 => some (v5, u))) else some ((-1), u))))
set_option maxRecDepth 100000 in
set_option maxHeartbeats 4000000 in
theorem tX0_termOf {u : Mm} {a0 : Nat} {x1 : Int32} {r : Int32} {u' : Mm} (h : fX0_termOf u a0 x1 = some (r, u')) : Ev 1 MX0_termOf 0 0 [.ref a0, .int x1] u (some (.int r), u') := by
  refine Ev.of (by decide +kernel) (Nat.le_of_ble_eq_true rfl) (show Eg MX0_termOf 1 0 0 (some (.int r), u') 0 [(0, .ref a0), (1, .int x1)] [] u from ?_)
  unfold fX0_termOf at h
  refine E_iload_n dX0_termOf_0 rfl rfl ?_
  refine ite_cases h (fun c1_0 h => ?_) (fun c1_0 h => ?_)
  · refine E_tabIn (off := 27) (tgt := 28) dX0_termOf_1 c1_0 (by decide +kernel) (by decide +kernel) (by decide +kernel) (by decide) ?_
    refine E_aload_n dX0_termOf_28 rfl rfl ?_
    refine E_getA h dX0_termOf_29 cf0 lk_X0_12 (by decide) (fun _ _ _ => rfl) (fun e1 h => ?_)
    refine F_Vi h (fun a m e => tX1_theDay e) dX0_termOf_32 hm_X1_theDay hv_X1_theDay ln_X0_86 rfl rfl (Nat.le_of_ble_eq_true rfl) (Nat.le_of_ble_eq_true rfl) (kc' := 0) (ks' := 0) rfl rfl (fun v2 u3 h => ?_)
    exact E_iret h dX0_termOf_35 rfl
  · refine ite_cases h (fun c1_1 h => ?_) (fun c1_1 h => ?_)
    · refine E_tabIn (off := 35) (tgt := 36) dX0_termOf_1 c1_1 (by decide +kernel) (by decide +kernel) (by decide +kernel) (by decide) ?_
      refine E_aload_n dX0_termOf_36 rfl rfl ?_
      refine E_getI h dX0_termOf_37 cf0 lk_X0_43 (by decide) (fun _ _ _ => rfl) (fun h => ?_)
      refine E_oI h (fun v4 h => ?_)
      exact E_iret h dX0_termOf_40 rfl
    · refine ite_cases h (fun c1_2 h => ?_) (fun c1_2 h => ?_)
      · refine E_tabIn (off := 40) (tgt := 41) dX0_termOf_1 c1_2 (by decide +kernel) (by decide +kernel) (by decide +kernel) (by decide) ?_
        refine E_aload_n dX0_termOf_41 rfl rfl ?_
        refine E_getI h dX0_termOf_42 cf0 lk_X0_72 (by decide) (fun _ _ _ => rfl) (fun h => ?_)
        refine E_oI h (fun v5 h => ?_)
        exact E_iret h dX0_termOf_45 rfl
      · refine E_tabD (tgt := 46) [0, 1, 2] dX0_termOf_1 (by intro k hk; simp only [List.mem_cons, List.not_mem_nil, or_false] at hk; rcases hk with rfl | rfl | rfl <;> first | exact ne_lit (by decide +kernel) c1_0 | exact ne_lit (by decide +kernel) c1_1 | exact ne_lit (by decide +kernel) c1_2) (by decide +kernel) (by decide) ?_
        refine E_iconst (v := (-1)) dX0_termOf_46 (by decide) ?_
        exact E_iret h dX0_termOf_47 rfl
def bX8_within_15 (u : Mm) (s0 : Int32) : Option (Int32 × Mm) := oZ s0 (some (s0, u))
set_option maxRecDepth 100000 in
set_option maxHeartbeats 4000000 in
theorem pX8_within_15 {r : Int32} {u' : Mm} (u : Mm) (s0 : Int32) (h : bX8_within_15 u s0 = some (r, u')) : Eg MX8_within 0 0 0 (some (.int r), u') 15 [] [.int s0] u := by
  unfold bX8_within_15 at h
  exact E_zret h dX8_within_15 rfl
def fX8_within (u : Mm) (x0 : Int32) (x1 : Int32) (x2 : Int32) : Option (Int32 × Mm) := (if (x0 : Int32) < x1 then bX8_within_15 u 0 else (if (x2 : Int32) < x0 then bX8_within_15 u 0 else bX8_within_15 u 1))
set_option maxRecDepth 100000 in
set_option maxHeartbeats 4000000 in
theorem tX8_within {u : Mm} {x0 : Int32} {x1 : Int32} {x2 : Int32} {r : Int32} {u' : Mm} (h : fX8_within u x0 x1 x2 = some (r, u')) : Ev 0 MX8_within 0 0 [.int x0, .int x1, .int x2] u (some (.int r), u') := by
  refine Ev.of (by decide +kernel) (Nat.le_of_ble_eq_true rfl) (show Eg MX8_within 0 0 0 (some (.int r), u') 0 [(0, .int x0), (1, .int x1), (2, .int x2)] [] u from ?_)
  unfold fX8_within at h
  refine E_iload_n dX8_within_0 rfl rfl ?_
  refine E_iload_n dX8_within_1 rfl rfl ?_
  refine E_ic_lt (tgt := 14) h dX8_within_2 (by decide) (fun h => ?_) (fun h => ?_)
  · refine E_iconst (v := 0) dX8_within_14 (by decide) ?_
    refine Eg.pick [] rfl ?_
    exact pX8_within_15 _ _ h
  · refine E_iload_n dX8_within_5 rfl rfl ?_
    refine E_iload_n dX8_within_6 rfl rfl ?_
    refine E_ic_gt (tgt := 14) h dX8_within_7 (by decide) (fun h => ?_) (fun h => ?_)
    · refine E_iconst (v := 0) dX8_within_14 (by decide) ?_
      refine Eg.pick [] rfl ?_
      exact pX8_within_15 _ _ h
    · refine E_iconst (v := 1) dX8_within_10 (by decide) ?_
      refine E_goto (tgt := 15) dX8_within_11 (by decide) ?_
      refine Eg.pick [] rfl ?_
      exact pX8_within_15 _ _ h
def fX0_termFits (u : Mm) (x0 : Int32) (x1 : Int32) : Option (Int32 × Mm) := (if (x0 : Int32) = 0 then oB (fX8_within u x1 0 999) (fun v1 u2 => oZ v1 (some (v1, u2))) else (if (x0 : Int32) = 1 then oB (fX8_within u x1 1 40) (fun v3 u4 => oZ v3 (some (v3, u4))) else oB (fX8_within u x1 0 9) (fun v5 u6 => oZ v5 (some (v5, u6)))))
set_option maxRecDepth 100000 in
set_option maxHeartbeats 4000000 in
theorem tX0_termFits {u : Mm} {x0 : Int32} {x1 : Int32} {r : Int32} {u' : Mm} (h : fX0_termFits u x0 x1 = some (r, u')) : Ev 1 MX0_termFits 0 0 [.int x0, .int x1] u (some (.int r), u') := by
  refine Ev.of (by decide +kernel) (Nat.le_of_ble_eq_true rfl) (show Eg MX0_termFits 1 0 0 (some (.int r), u') 0 [(0, .int x0), (1, .int x1)] [] u from ?_)
  unfold fX0_termFits at h
  refine E_iload_n dX0_termFits_0 rfl rfl ?_
  refine ite_cases h (fun c1_0 h => ?_) (fun c1_0 h => ?_)
  · refine E_lookup (off := 27) (tgt := 28) dX0_termFits_1 (by decide +kernel) (by rw [c1_0]; decide +kernel) (by decide) ?_
    refine E_iload_n dX0_termFits_28 rfl rfl ?_
    refine E_iconst (v := 0) dX0_termFits_29 (by decide) ?_
    refine E_sipush (v := 999) dX0_termFits_30 (by decide) ?_
    refine F_Si h (fun a m e => tX8_within e) dX0_termFits_33 hm_X8_within hs_X8_within ln_X0_90 rfl rfl (Nat.le_of_ble_eq_true rfl) (Nat.le_of_ble_eq_true rfl) (kc' := 0) (ks' := 0) rfl rfl (fun v1 u2 h => ?_)
    exact E_zret h dX0_termFits_36 rfl
  · refine ite_cases h (fun c1_1 h => ?_) (fun c1_1 h => ?_)
    · refine E_lookup (off := 36) (tgt := 37) dX0_termFits_1 (by decide +kernel) (by rw [c1_1]; decide +kernel) (by decide) ?_
      refine E_iload_n dX0_termFits_37 rfl rfl ?_
      refine E_iconst (v := 1) dX0_termFits_38 (by decide) ?_
      refine E_bipush (v := 40) dX0_termFits_39 (by decide) ?_
      refine F_Si h (fun a m e => tX8_within e) dX0_termFits_41 hm_X8_within hs_X8_within ln_X0_90 rfl rfl (Nat.le_of_ble_eq_true rfl) (Nat.le_of_ble_eq_true rfl) (kc' := 0) (ks' := 0) rfl rfl (fun v3 u4 h => ?_)
      exact E_zret h dX0_termFits_44 rfl
    · refine E_look2 (tgt := 45) dX0_termFits_1 (by decide) (ne_lit (by decide +kernel) c1_0) (ne_lit (by decide +kernel) c1_1) (by decide) ?_
      refine E_iload_n dX0_termFits_45 rfl rfl ?_
      refine E_iconst (v := 0) dX0_termFits_46 (by decide) ?_
      refine E_bipush (v := 9) dX0_termFits_47 (by decide) ?_
      refine F_Si h (fun a m e => tX8_within e) dX0_termFits_49 hm_X8_within hs_X8_within ln_X0_90 rfl rfl (Nat.le_of_ble_eq_true rfl) (Nat.le_of_ble_eq_true rfl) (kc' := 0) (ks' := 0) rfl rfl (fun v5 u6 h => ?_)
      exact E_zret h dX0_termFits_52 rfl
def fX1_setDay (u : Mm) (a0 : Nat) (x1 : Int32) : Option (Unit × Mm) := oK u a0 1 1 (oNn (mR u a0 0) (fun e1 => oA u e1 10 28 (oU (wI u e1 (upd (mI u e1) (Int32.toNatClampNeg 28) x1)) (fun u2 => some ((), u2)))))
set_option maxRecDepth 100000 in
set_option maxHeartbeats 4000000 in
theorem tX1_setDay {u : Mm} {a0 : Nat} {x1 : Int32} {r : Unit} {u' : Mm} (h : fX1_setDay u a0 x1 = some (r, u')) : Ev 0 MX1_setDay 0 0 [.ref a0, .int x1] u (none, u') := by
  refine Ev.of (by decide +kernel) (Nat.le_of_ble_eq_true rfl) (show Eg MX1_setDay 0 0 0 (none, u') 0 [(0, .ref a0), (1, .int x1)] [] u from ?_)
  unfold fX1_setDay at h
  refine E_aload_n dX1_setDay_0 rfl rfl ?_
  refine E_getA h dX1_setDay_1 cf1 lk_X1_9 (by decide) (fun _ _ _ => rfl) (fun e1 h => ?_)
  refine E_bipush (v := 28) dX1_setDay_4 (by decide) ?_
  refine E_iload_n dX1_setDay_6 rfl rfl ?_
  refine E_iast h dX1_setDay_7 (fun h => ?_)
  refine E_oU h (fun u2 h => ?_)
  exact E_vret h dX1_setDay_8 rfl
def fX0_setTerm (u : Mm) (a0 : Nat) (x1 : Int32) (x2 : Int32) : Option (Unit × Mm) := (if (x1 : Int32) = 0 then oK u a0 0 16 (oNn (mR u a0 0) (fun e1 => oR u e1 1 (oB (fX1_setDay u e1 x2) (fun _ u2 => some ((), u2))))) else (if (x1 : Int32) = 1 then oK u a0 0 16 (oU (wI u a0 (upd (mI u a0) 11 x2)) (fun u3 => some ((), u3))) else oK u a0 0 16 (oU (wI u a0 (upd (mI u a0) 12 x2)) (fun u4 => some ((), u4)))))
set_option maxRecDepth 100000 in
set_option maxHeartbeats 4000000 in
theorem tX0_setTerm {u : Mm} {a0 : Nat} {x1 : Int32} {x2 : Int32} {r : Unit} {u' : Mm} (h : fX0_setTerm u a0 x1 x2 = some (r, u')) : Ev 1 MX0_setTerm 0 0 [.ref a0, .int x1, .int x2] u (none, u') := by
  refine Ev.of (by decide +kernel) (Nat.le_of_ble_eq_true rfl) (show Eg MX0_setTerm 1 0 0 (none, u') 0 [(0, .ref a0), (1, .int x1), (2, .int x2)] [] u from ?_)
  unfold fX0_setTerm at h
  refine E_iload_n dX0_setTerm_0 rfl rfl ?_
  refine ite_cases h (fun c1_0 h => ?_) (fun c1_0 h => ?_)
  · refine E_lookup (off := 27) (tgt := 28) dX0_setTerm_1 (by decide +kernel) (by rw [c1_0]; decide +kernel) (by decide) ?_
    refine E_aload_n dX0_setTerm_28 rfl rfl ?_
    refine E_getA h dX0_setTerm_29 cf0 lk_X0_12 (by decide) (fun _ _ _ => rfl) (fun e1 h => ?_)
    refine E_iload_n dX0_setTerm_32 rfl rfl ?_
    refine F_Vv h (fun m e => tX1_setDay e) dX0_setTerm_33 hm_X1_setDay hv_X1_setDay ln_X0_94 rfl rfl (Nat.le_of_ble_eq_true rfl) (Nat.le_of_ble_eq_true rfl) (kc' := 0) (ks' := 0) rfl rfl (fun u2 h => ?_)
    refine E_goto (tgt := 52) dX0_setTerm_36 (by decide) ?_
    exact E_vret h dX0_setTerm_52 rfl
  · refine ite_cases h (fun c1_1 h => ?_) (fun c1_1 h => ?_)
    · refine E_lookup (off := 38) (tgt := 39) dX0_setTerm_1 (by decide +kernel) (by rw [c1_1]; decide +kernel) (by decide) ?_
      refine E_aload_n dX0_setTerm_39 rfl rfl ?_
      refine E_iload_n dX0_setTerm_40 rfl rfl ?_
      refine E_putI h dX0_setTerm_41 cf0 lk_X0_43 (by decide) (Or.inl rfl) rfl (fun h => ?_)
      refine E_oU h (fun u3 h => ?_)
      refine E_goto (tgt := 52) dX0_setTerm_44 (by decide) ?_
      exact E_vret h dX0_setTerm_52 rfl
    · refine E_look2 (tgt := 47) dX0_setTerm_1 (by decide) (ne_lit (by decide +kernel) c1_0) (ne_lit (by decide +kernel) c1_1) (by decide) ?_
      refine E_aload_n dX0_setTerm_47 rfl rfl ?_
      refine E_iload_n dX0_setTerm_48 rfl rfl ?_
      refine E_putI h dX0_setTerm_49 cf0 lk_X0_72 (by decide) (Or.inl rfl) rfl (fun h => ?_)
      refine E_oU h (fun u4 h => ?_)
      exact E_vret h dX0_setTerm_52 rfl
def fX1_lineAt (u : Mm) (a0 : Nat) (x1 : Int32) : Option (Int32 × Mm) := oK u a0 1 1 (oNn (mR u a0 0) (fun e1 => oA u e1 10 ((0 : Int32) + x1) (oI (mI u e1 (Int32.toNatClampNeg ((0 : Int32) + x1))) (fun v2 => some (v2, u)))))
set_option maxRecDepth 100000 in
set_option maxHeartbeats 4000000 in
theorem tX1_lineAt {u : Mm} {a0 : Nat} {x1 : Int32} {r : Int32} {u' : Mm} (h : fX1_lineAt u a0 x1 = some (r, u')) : Ev 0 MX1_lineAt 0 0 [.ref a0, .int x1] u (some (.int r), u') := by
  refine Ev.of (by decide +kernel) (Nat.le_of_ble_eq_true rfl) (show Eg MX1_lineAt 0 0 0 (some (.int r), u') 0 [(0, .ref a0), (1, .int x1)] [] u from ?_)
  unfold fX1_lineAt at h
  refine E_aload_n dX1_lineAt_0 rfl rfl ?_
  refine E_getA h dX1_lineAt_1 cf1 lk_X1_9 (by decide) (fun _ _ _ => rfl) (fun e1 h => ?_)
  refine E_iconst (v := 0) dX1_lineAt_4 (by decide) ?_
  refine E_iload_n dX1_lineAt_5 rfl rfl ?_
  refine E_iadd dX1_lineAt_6 ?_
  refine E_iald h dX1_lineAt_7 (fun h => ?_)
  refine E_oI h (fun v2 h => ?_)
  exact E_iret h dX1_lineAt_8 rfl
def fX1_setLine (u : Mm) (a0 : Nat) (x1 : Int32) (x2 : Int32) : Option (Unit × Mm) := oK u a0 1 1 (oNn (mR u a0 0) (fun e1 => oA u e1 10 ((0 : Int32) + x1) (oU (wI u e1 (upd (mI u e1) (Int32.toNatClampNeg ((0 : Int32) + x1)) x2)) (fun u2 => some ((), u2)))))
set_option maxRecDepth 100000 in
set_option maxHeartbeats 4000000 in
theorem tX1_setLine {u : Mm} {a0 : Nat} {x1 : Int32} {x2 : Int32} {r : Unit} {u' : Mm} (h : fX1_setLine u a0 x1 x2 = some (r, u')) : Ev 0 MX1_setLine 0 0 [.ref a0, .int x1, .int x2] u (none, u') := by
  refine Ev.of (by decide +kernel) (Nat.le_of_ble_eq_true rfl) (show Eg MX1_setLine 0 0 0 (none, u') 0 [(0, .ref a0), (1, .int x1), (2, .int x2)] [] u from ?_)
  unfold fX1_setLine at h
  refine E_aload_n dX1_setLine_0 rfl rfl ?_
  refine E_getA h dX1_setLine_1 cf1 lk_X1_9 (by decide) (fun _ _ _ => rfl) (fun e1 h => ?_)
  refine E_iconst (v := 0) dX1_setLine_4 (by decide) ?_
  refine E_iload_n dX1_setLine_5 rfl rfl ?_
  refine E_iadd dX1_setLine_6 ?_
  refine E_iload_n dX1_setLine_7 rfl rfl ?_
  refine E_iast h dX1_setLine_8 (fun h => ?_)
  refine E_oU h (fun u2 h => ?_)
  exact E_vret h dX1_setLine_9 rfl
def fX1_menAt (u : Mm) (a0 : Nat) (x1 : Int32) (x2 : Int32) : Option (Int32 × Mm) := oK u a0 1 1 (oNn (mR u a0 0) (fun e1 => oA u e1 10 (((8 : Int32) + (x1 * 8)) + x2) (oI (mI u e1 (Int32.toNatClampNeg (((8 : Int32) + (x1 * 8)) + x2))) (fun v2 => some (v2, u)))))
set_option maxRecDepth 100000 in
set_option maxHeartbeats 4000000 in
theorem tX1_menAt {u : Mm} {a0 : Nat} {x1 : Int32} {x2 : Int32} {r : Int32} {u' : Mm} (h : fX1_menAt u a0 x1 x2 = some (r, u')) : Ev 0 MX1_menAt 0 0 [.ref a0, .int x1, .int x2] u (some (.int r), u') := by
  refine Ev.of (by decide +kernel) (Nat.le_of_ble_eq_true rfl) (show Eg MX1_menAt 0 0 0 (some (.int r), u') 0 [(0, .ref a0), (1, .int x1), (2, .int x2)] [] u from ?_)
  unfold fX1_menAt at h
  refine E_aload_n dX1_menAt_0 rfl rfl ?_
  refine E_getA h dX1_menAt_1 cf1 lk_X1_9 (by decide) (fun _ _ _ => rfl) (fun e1 h => ?_)
  refine E_bipush (v := 8) dX1_menAt_4 (by decide) ?_
  refine E_iload_n dX1_menAt_6 rfl rfl ?_
  refine E_bipush (v := 8) dX1_menAt_7 (by decide) ?_
  refine E_imul dX1_menAt_9 ?_
  refine E_iadd dX1_menAt_10 ?_
  refine E_iload_n dX1_menAt_11 rfl rfl ?_
  refine E_iadd dX1_menAt_12 ?_
  refine E_iald h dX1_menAt_13 (fun h => ?_)
  refine E_oI h (fun v2 h => ?_)
  exact E_iret h dX1_menAt_14 rfl
def fX1_setMen (u : Mm) (a0 : Nat) (x1 : Int32) (x2 : Int32) (x3 : Int32) : Option (Unit × Mm) := oK u a0 1 1 (oNn (mR u a0 0) (fun e1 => oA u e1 10 (((8 : Int32) + (x1 * 8)) + x2) (oU (wI u e1 (upd (mI u e1) (Int32.toNatClampNeg (((8 : Int32) + (x1 * 8)) + x2)) x3)) (fun u2 => some ((), u2)))))
set_option maxRecDepth 100000 in
set_option maxHeartbeats 4000000 in
theorem tX1_setMen {u : Mm} {a0 : Nat} {x1 : Int32} {x2 : Int32} {x3 : Int32} {r : Unit} {u' : Mm} (h : fX1_setMen u a0 x1 x2 x3 = some (r, u')) : Ev 0 MX1_setMen 0 0 [.ref a0, .int x1, .int x2, .int x3] u (none, u') := by
  refine Ev.of (by decide +kernel) (Nat.le_of_ble_eq_true rfl) (show Eg MX1_setMen 0 0 0 (none, u') 0 [(0, .ref a0), (1, .int x1), (2, .int x2), (3, .int x3)] [] u from ?_)
  unfold fX1_setMen at h
  refine E_aload_n dX1_setMen_0 rfl rfl ?_
  refine E_getA h dX1_setMen_1 cf1 lk_X1_9 (by decide) (fun _ _ _ => rfl) (fun e1 h => ?_)
  refine E_bipush (v := 8) dX1_setMen_4 (by decide) ?_
  refine E_iload_n dX1_setMen_6 rfl rfl ?_
  refine E_bipush (v := 8) dX1_setMen_7 (by decide) ?_
  refine E_imul dX1_setMen_9 ?_
  refine E_iadd dX1_setMen_10 ?_
  refine E_iload_n dX1_setMen_11 rfl rfl ?_
  refine E_iadd dX1_setMen_12 ?_
  refine E_iload_n dX1_setMen_13 rfl rfl ?_
  refine E_iast h dX1_setMen_14 (fun h => ?_)
  refine E_oU h (fun u2 h => ?_)
  exact E_vret h dX1_setMen_15 rfl
def bX1_menOf_4 (k4 : Mm → Nat → Int32 → Int32 → Int32 → Option (Int32 × Mm)) (u : Mm) (a0 : Nat) (x1 : Int32) (x2 : Int32) (x3 : Int32) : Option (Int32 × Mm) := (if (8 : Int32) ≤ x3 then some (x2, u) else oR u a0 1 (oB (fX1_menAt u a0 x1 x3) (fun v1 u2 => oI (x2 + v1) (fun v3 => k4 u2 a0 x1 v3 (x3 + 1)))))
set_option maxRecDepth 100000 in
set_option maxHeartbeats 4000000 in
theorem pX1_menOf_4 {r : Int32} {u' : Mm} {k4 : Mm → Nat → Int32 → Int32 → Int32 → Option (Int32 × Mm)} (hk4 : ∀ (u : Mm) (a0 : Nat) (x1 : Int32) (x2 : Int32) (x3 : Int32), k4 u a0 x1 x2 x3 = some (r, u') → Eg MX1_menOf 1 0 0 (some (.int r), u') 4 [(0, .ref a0), (1, .int x1), (2, .int x2), (3, .int x3)] [] u) (u : Mm) (a0 : Nat) (x1 : Int32) (x2 : Int32) (x3 : Int32) (h : bX1_menOf_4 k4 u a0 x1 x2 x3 = some (r, u')) : Eg MX1_menOf 1 0 0 (some (.int r), u') 4 [(0, .ref a0), (1, .int x1), (2, .int x2), (3, .int x3)] [] u := by
  unfold bX1_menOf_4 at h
  refine E_iload_n dX1_menOf_4 rfl rfl ?_
  refine E_bipush (v := 8) dX1_menOf_5 (by decide) ?_
  refine E_ic_ge (tgt := 25) h dX1_menOf_7 (by decide) (fun h => ?_) (fun h => ?_)
  · refine E_iload_n dX1_menOf_25 rfl rfl ?_
    exact E_iret h dX1_menOf_26 rfl
  · refine E_iload_n dX1_menOf_10 rfl rfl ?_
    refine E_aload_n dX1_menOf_11 rfl rfl ?_
    refine E_iload_n dX1_menOf_12 rfl rfl ?_
    refine E_iload_n dX1_menOf_13 rfl rfl ?_
    refine F_Vi h (fun a m e => tX1_menAt e) dX1_menOf_14 hm_X1_menAt hv_X1_menAt ln_X1_21 rfl rfl (Nat.le_of_ble_eq_true rfl) (Nat.le_of_ble_eq_true rfl) (kc' := 0) (ks' := 0) rfl rfl (fun v1 u2 h => ?_)
    refine E_iadd dX1_menOf_17 ?_
    refine E_oI h (fun v3 h => ?_)
    refine E_istore_n (l' := [(2, .int v3), (0, .ref a0), (1, .int x1), (3, .int x3)]) dX1_menOf_18 rfl (Nat.le_of_ble_eq_true rfl) rfl ?_
    refine E_iinc (j := 3) (v := x3 + 1) (l' := [(3, .int (x3 + 1)), (2, .int v3), (0, .ref a0), (1, .int x1)]) dX1_menOf_19 rfl (addI (by decide)) (Nat.le_of_ble_eq_true rfl) rfl ?_
    refine E_goto (tgt := 4) dX1_menOf_22 (by decide) ?_
    refine Eg.pick [2, 3, 1, 0] rfl ?_
    exact hk4 _ _ _ _ _ h
def rX1_menOf_4 : Nat → Mm → Nat → Int32 → Int32 → Int32 → Option (Int32 × Mm)
  | 0, _, _, _, _, _ => none
  | n + 1, u, a0, x1, x2, x3 => bX1_menOf_4 (rX1_menOf_4 n) u a0 x1 x2 x3
theorem prX1_menOf_4 {r : Int32} {u' : Mm} : ∀ (n : Nat) (u : Mm) (a0 : Nat) (x1 : Int32) (x2 : Int32) (x3 : Int32), rX1_menOf_4 n u a0 x1 x2 x3 = some (r, u') → Eg MX1_menOf 1 0 0 (some (.int r), u') 4 [(0, .ref a0), (1, .int x1), (2, .int x2), (3, .int x3)] [] u
  | 0, _, _, _, _, _, h => by cases h
  | n + 1, u, a0, x1, x2, x3, h => pX1_menOf_4 (prX1_menOf_4 n) u a0 x1 x2 x3 h
def fX1_menOf (u : Mm) (a0 : Nat) (x1 : Int32) : Option (Int32 × Mm) := rX1_menOf_4 hwF u a0 x1 0 0
set_option maxRecDepth 100000 in
set_option maxHeartbeats 4000000 in
theorem tX1_menOf {u : Mm} {a0 : Nat} {x1 : Int32} {r : Int32} {u' : Mm} (h : fX1_menOf u a0 x1 = some (r, u')) : Ev 1 MX1_menOf 0 0 [.ref a0, .int x1] u (some (.int r), u') := by
  refine Ev.of (by decide +kernel) (Nat.le_of_ble_eq_true rfl) (show Eg MX1_menOf 1 0 0 (some (.int r), u') 0 [(0, .ref a0), (1, .int x1)] [] u from ?_)
  unfold fX1_menOf at h
  refine E_iconst (v := 0) dX1_menOf_0 (by decide) ?_
  refine E_istore_n (l' := [(2, .int 0), (0, .ref a0), (1, .int x1)]) dX1_menOf_1 rfl (Nat.le_of_ble_eq_true rfl) rfl ?_
  refine E_iconst (v := 0) dX1_menOf_2 (by decide) ?_
  refine E_istore_n (l' := [(3, .int 0), (2, .int 0), (0, .ref a0), (1, .int x1)]) dX1_menOf_3 rfl (Nat.le_of_ble_eq_true rfl) rfl ?_
  refine Eg.pick [2, 3, 1, 0] rfl ?_
  exact prX1_menOf_4 _ _ _ _ _ _ h
def bX1_isStronger_22 (u : Mm) (s0 : Int32) : Option (Int32 × Mm) := oZ s0 (some (s0, u))
set_option maxRecDepth 100000 in
set_option maxHeartbeats 4000000 in
theorem pX1_isStronger_22 {r : Int32} {u' : Mm} (u : Mm) (s0 : Int32) (h : bX1_isStronger_22 u s0 = some (r, u')) : Eg MX1_isStronger 1 0 0 (some (.int r), u') 22 [] [.int s0] u := by
  unfold bX1_isStronger_22 at h
  exact E_zret h dX1_isStronger_22 rfl
def fX1_isStronger (u : Mm) (a0 : Nat) (x1 : Int32) (x2 : Int32) : Option (Int32 × Mm) := oR u a0 1 (oB (fX1_menAt u a0 x1 x2) (fun v1 u2 => oR u2 a0 1 (oB (fX1_menAt u2 a0 ((1 : Int32) - x1) x2) (fun v3 u4 => (if (v1 : Int32) ≤ v3 then bX1_isStronger_22 u4 0 else bX1_isStronger_22 u4 1)))))
set_option maxRecDepth 100000 in
set_option maxHeartbeats 4000000 in
theorem tX1_isStronger {u : Mm} {a0 : Nat} {x1 : Int32} {x2 : Int32} {r : Int32} {u' : Mm} (h : fX1_isStronger u a0 x1 x2 = some (r, u')) : Ev 1 MX1_isStronger 0 0 [.ref a0, .int x1, .int x2] u (some (.int r), u') := by
  refine Ev.of (by decide +kernel) (Nat.le_of_ble_eq_true rfl) (show Eg MX1_isStronger 1 0 0 (some (.int r), u') 0 [(0, .ref a0), (1, .int x1), (2, .int x2)] [] u from ?_)
  unfold fX1_isStronger at h
  refine E_aload_n dX1_isStronger_0 rfl rfl ?_
  refine E_iload_n dX1_isStronger_1 rfl rfl ?_
  refine E_iload_n dX1_isStronger_2 rfl rfl ?_
  refine F_Vi h (fun a m e => tX1_menAt e) dX1_isStronger_3 hm_X1_menAt hv_X1_menAt ln_X1_21 rfl rfl (Nat.le_of_ble_eq_true rfl) (Nat.le_of_ble_eq_true rfl) (kc' := 0) (ks' := 0) rfl rfl (fun v1 u2 h => ?_)
  refine E_aload_n dX1_isStronger_6 rfl rfl ?_
  refine E_iconst (v := 1) dX1_isStronger_7 (by decide) ?_
  refine E_iload_n dX1_isStronger_8 rfl rfl ?_
  refine E_isub dX1_isStronger_9 ?_
  refine E_iload_n dX1_isStronger_10 rfl rfl ?_
  refine F_Vi h (fun a m e => tX1_menAt e) dX1_isStronger_11 hm_X1_menAt hv_X1_menAt ln_X1_21 rfl rfl (Nat.le_of_ble_eq_true rfl) (Nat.le_of_ble_eq_true rfl) (kc' := 0) (ks' := 0) rfl rfl (fun v3 u4 h => ?_)
  refine E_ic_le (tgt := 21) h dX1_isStronger_14 (by decide) (fun h => ?_) (fun h => ?_)
  · refine E_iconst (v := 0) dX1_isStronger_21 (by decide) ?_
    refine Eg.pick [] rfl ?_
    exact pX1_isStronger_22 _ _ h
  · refine E_iconst (v := 1) dX1_isStronger_17 (by decide) ?_
    refine E_goto (tgt := 22) dX1_isStronger_18 (by decide) ?_
    refine Eg.pick [] rfl ?_
    exact pX1_isStronger_22 _ _ h
def bX1_canGoOn_36 (u : Mm) (s0 : Int32) : Option (Int32 × Mm) := oZ s0 (some (s0, u))
set_option maxRecDepth 100000 in
set_option maxHeartbeats 4000000 in
theorem pX1_canGoOn_36 {r : Int32} {u' : Mm} (u : Mm) (s0 : Int32) (h : bX1_canGoOn_36 u s0 = some (r, u')) : Eg MX1_canGoOn 1 0 0 (some (.int r), u') 36 [] [.int s0] u := by
  unfold bX1_canGoOn_36 at h
  exact E_zret h dX1_canGoOn_36 rfl
def fX1_canGoOn (u : Mm) (a0 : Nat) (x1 : Int32) (x2 : Int32) : Option (Int32 × Mm) := (if (x1 : Int32) = 0 then oR u a0 1 (oB (fX1_lineAt u a0 x2) (fun v3 u4 => (if (3 : Int32) ≤ v3 then bX1_canGoOn_36 u4 0 else bX1_canGoOn_36 u4 1))) else oR u a0 1 (oB (fX1_lineAt u a0 x2) (fun v1 u2 => (if (v1 : Int32) ≤ ((-3)) then bX1_canGoOn_36 u2 0 else bX1_canGoOn_36 u2 1))))
set_option maxRecDepth 100000 in
set_option maxHeartbeats 4000000 in
theorem tX1_canGoOn {u : Mm} {a0 : Nat} {x1 : Int32} {x2 : Int32} {r : Int32} {u' : Mm} (h : fX1_canGoOn u a0 x1 x2 = some (r, u')) : Ev 1 MX1_canGoOn 0 0 [.ref a0, .int x1, .int x2] u (some (.int r), u') := by
  refine Ev.of (by decide +kernel) (Nat.le_of_ble_eq_true rfl) (show Eg MX1_canGoOn 1 0 0 (some (.int r), u') 0 [(0, .ref a0), (1, .int x1), (2, .int x2)] [] u from ?_)
  unfold fX1_canGoOn at h
  refine E_iload_n dX1_canGoOn_0 rfl rfl ?_
  refine E_if_ne (tgt := 21) h dX1_canGoOn_1 (by decide) (fun h => ?_) (fun h => ?_)
  · refine E_aload_n dX1_canGoOn_21 rfl rfl ?_
    refine E_iload_n dX1_canGoOn_22 rfl rfl ?_
    refine F_Vi h (fun a m e => tX1_lineAt e) dX1_canGoOn_23 hm_X1_lineAt hv_X1_lineAt ln_X1_25 rfl rfl (Nat.le_of_ble_eq_true rfl) (Nat.le_of_ble_eq_true rfl) (kc' := 0) (ks' := 0) rfl rfl (fun v1 u2 h => ?_)
    refine E_bipush (v := (-3)) dX1_canGoOn_26 (by decide) ?_
    refine E_ic_le (tgt := 35) h dX1_canGoOn_28 (by decide) (fun h => ?_) (fun h => ?_)
    · refine E_iconst (v := 0) dX1_canGoOn_35 (by decide) ?_
      refine Eg.pick [] rfl ?_
      exact pX1_canGoOn_36 _ _ h
    · refine E_iconst (v := 1) dX1_canGoOn_31 (by decide) ?_
      refine E_goto (tgt := 36) dX1_canGoOn_32 (by decide) ?_
      refine Eg.pick [] rfl ?_
      exact pX1_canGoOn_36 _ _ h
  · refine E_aload_n dX1_canGoOn_4 rfl rfl ?_
    refine E_iload_n dX1_canGoOn_5 rfl rfl ?_
    refine F_Vi h (fun a m e => tX1_lineAt e) dX1_canGoOn_6 hm_X1_lineAt hv_X1_lineAt ln_X1_25 rfl rfl (Nat.le_of_ble_eq_true rfl) (Nat.le_of_ble_eq_true rfl) (kc' := 0) (ks' := 0) rfl rfl (fun v3 u4 h => ?_)
    refine E_iconst (v := 3) dX1_canGoOn_9 (by decide) ?_
    refine E_ic_ge (tgt := 17) h dX1_canGoOn_10 (by decide) (fun h => ?_) (fun h => ?_)
    · refine E_iconst (v := 0) dX1_canGoOn_17 (by decide) ?_
      refine E_goto (tgt := 36) dX1_canGoOn_18 (by decide) ?_
      refine Eg.pick [] rfl ?_
      exact pX1_canGoOn_36 _ _ h
    · refine E_iconst (v := 1) dX1_canGoOn_13 (by decide) ?_
      refine E_goto (tgt := 36) dX1_canGoOn_14 (by decide) ?_
      refine Eg.pick [] rfl ?_
      exact pX1_canGoOn_36 _ _ h
