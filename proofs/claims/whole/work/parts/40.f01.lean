/-! ===== methods as functions, with their contracts (printed by program) ===== -/
def bX4_wordAt_94 (k13 : Mm → Nat → Int32 → Int32 → Int32 → Int32 → Int32 → Int32 → Option (Int32 × Mm)) (u : Mm) (a0 : Nat) (x1 : Int32) (x2 : Int32) (x3 : Int32) (x4 : Int32) (x5 : Int32) (x6 : Int32) : Option (Int32 × Mm) := k13 u a0 x1 x2 x3 x4 x5 (x6 + 1)
set_option maxRecDepth 100000 in
set_option maxHeartbeats 4000000 in
theorem pX4_wordAt_94 {r : Int32} {u' : Mm} {k13 : Mm → Nat → Int32 → Int32 → Int32 → Int32 → Int32 → Int32 → Option (Int32 × Mm)} (hk13 : ∀ (u : Mm) (a0 : Nat) (x1 : Int32) (x2 : Int32) (x3 : Int32) (x4 : Int32) (x5 : Int32) (x6 : Int32), k13 u a0 x1 x2 x3 x4 x5 x6 = some (r, u') → Eg MX4_wordAt 4 0 0 (some (.int r), u') 13 [(0, .ref a0), (1, .int x1), (2, .int x2), (3, .int x3), (4, .int x4), (5, .int x5), (6, .int x6)] [] u) (u : Mm) (a0 : Nat) (x1 : Int32) (x2 : Int32) (x3 : Int32) (x4 : Int32) (x5 : Int32) (x6 : Int32) (h : bX4_wordAt_94 k13 u a0 x1 x2 x3 x4 x5 x6 = some (r, u')) : Eg MX4_wordAt 4 0 0 (some (.int r), u') 94 [(0, .ref a0), (1, .int x1), (2, .int x2), (3, .int x3), (4, .int x4), (5, .int x5), (6, .int x6)] [] u := by
  unfold bX4_wordAt_94 at h
  refine E_iinc (j := 6) (v := x6 + 1) (l' := [(6, .int (x6 + 1)), (0, .ref a0), (1, .int x1), (2, .int x2), (3, .int x3), (4, .int x4), (5, .int x5)]) dX4_wordAt_94 rfl (addI (by decide)) (Nat.le_of_ble_eq_true rfl) rfl ?_
  refine E_goto (tgt := 13) dX4_wordAt_97 (by decide) ?_
  refine Eg.pick [1, 2, 3, 4, 5, 6, 0] rfl ?_
  exact hk13 _ _ _ _ _ _ _ _ h
def bX4_wordAt_85 (k13 : Mm → Nat → Int32 → Int32 → Int32 → Int32 → Int32 → Int32 → Option (Int32 × Mm)) (u : Mm) (a0 : Nat) (x1 : Int32) (x2 : Int32) (x3 : Int32) (x6 : Int32) : Option (Int32 × Mm) := bX4_wordAt_94 k13 u a0 x1 x2 (x3 + 1) x1 1 x6
set_option maxRecDepth 100000 in
set_option maxHeartbeats 4000000 in
theorem pX4_wordAt_85 {r : Int32} {u' : Mm} {k13 : Mm → Nat → Int32 → Int32 → Int32 → Int32 → Int32 → Int32 → Option (Int32 × Mm)} (hk13 : ∀ (u : Mm) (a0 : Nat) (x1 : Int32) (x2 : Int32) (x3 : Int32) (x4 : Int32) (x5 : Int32) (x6 : Int32), k13 u a0 x1 x2 x3 x4 x5 x6 = some (r, u') → Eg MX4_wordAt 4 0 0 (some (.int r), u') 13 [(0, .ref a0), (1, .int x1), (2, .int x2), (3, .int x3), (4, .int x4), (5, .int x5), (6, .int x6)] [] u) (u : Mm) (a0 : Nat) (x1 : Int32) (x2 : Int32) (x3 : Int32) (x6 : Int32) (h : bX4_wordAt_85 k13 u a0 x1 x2 x3 x6 = some (r, u')) : Eg MX4_wordAt 4 0 0 (some (.int r), u') 85 [(0, .ref a0), (1, .int x1), (2, .int x2), (3, .int x3), (6, .int x6)] [] u := by
  unfold bX4_wordAt_85 at h
  refine E_iinc (j := 3) (v := x3 + 1) (l' := [(3, .int (x3 + 1)), (0, .ref a0), (1, .int x1), (2, .int x2), (6, .int x6)]) dX4_wordAt_85 rfl (addI (by decide)) (Nat.le_of_ble_eq_true rfl) rfl ?_
  refine E_iload_n dX4_wordAt_88 rfl rfl ?_
  refine E_istore (l' := [(4, .int x1), (3, .int (x3 + 1)), (0, .ref a0), (1, .int x1), (2, .int x2), (6, .int x6)]) dX4_wordAt_89 (Nat.le_of_ble_eq_true rfl) rfl ?_
  refine E_iconst (v := 1) dX4_wordAt_91 (by decide) ?_
  refine E_istore (l' := [(5, .int 1), (4, .int x1), (3, .int (x3 + 1)), (0, .ref a0), (1, .int x1), (2, .int x2), (6, .int x6)]) dX4_wordAt_92 (Nat.le_of_ble_eq_true rfl) rfl ?_
  refine Eg.pick [3, 4, 5, 2, 1, 0, 6] rfl ?_
  exact pX4_wordAt_94 hk13 _ _ _ _ _ _ _ _ h
def bX4_wordAt_64 (k13 : Mm → Nat → Int32 → Int32 → Int32 → Int32 → Int32 → Int32 → Option (Int32 × Mm)) (u : Mm) (a0 : Nat) (x1 : Int32) (x2 : Int32) (x3 : Int32) (x4 : Int32) (x6 : Int32) (s0 : Int32) : Option (Int32 × Mm) := bX4_wordAt_94 k13 u a0 x1 x2 x3 (x4 + 1) s0 x6
set_option maxRecDepth 100000 in
set_option maxHeartbeats 4000000 in
theorem pX4_wordAt_64 {r : Int32} {u' : Mm} {k13 : Mm → Nat → Int32 → Int32 → Int32 → Int32 → Int32 → Int32 → Option (Int32 × Mm)} (hk13 : ∀ (u : Mm) (a0 : Nat) (x1 : Int32) (x2 : Int32) (x3 : Int32) (x4 : Int32) (x5 : Int32) (x6 : Int32), k13 u a0 x1 x2 x3 x4 x5 x6 = some (r, u') → Eg MX4_wordAt 4 0 0 (some (.int r), u') 13 [(0, .ref a0), (1, .int x1), (2, .int x2), (3, .int x3), (4, .int x4), (5, .int x5), (6, .int x6)] [] u) (u : Mm) (a0 : Nat) (x1 : Int32) (x2 : Int32) (x3 : Int32) (x4 : Int32) (x6 : Int32) (s0 : Int32) (h : bX4_wordAt_64 k13 u a0 x1 x2 x3 x4 x6 s0 = some (r, u')) : Eg MX4_wordAt 4 0 0 (some (.int r), u') 64 [(0, .ref a0), (1, .int x1), (2, .int x2), (3, .int x3), (4, .int x4), (6, .int x6)] [.int s0] u := by
  unfold bX4_wordAt_64 at h
  refine E_istore (l' := [(5, .int s0), (0, .ref a0), (1, .int x1), (2, .int x2), (3, .int x3), (4, .int x4), (6, .int x6)]) dX4_wordAt_64 (Nat.le_of_ble_eq_true rfl) rfl ?_
  refine E_iinc (j := 5) (v := x4 + 1) (l' := [(4, .int (x4 + 1)), (5, .int s0), (0, .ref a0), (1, .int x1), (2, .int x2), (3, .int x3), (6, .int x6)]) dX4_wordAt_66 rfl (addI (by decide)) (Nat.le_of_ble_eq_true rfl) rfl ?_
  refine E_goto (tgt := 94) dX4_wordAt_69 (by decide) ?_
  refine Eg.pick [2, 3, 4, 5, 0, 1, 6] rfl ?_
  exact pX4_wordAt_94 hk13 _ _ _ _ _ _ _ _ h
def bX4_wordAt_63 (k13 : Mm → Nat → Int32 → Int32 → Int32 → Int32 → Int32 → Int32 → Option (Int32 × Mm)) (u : Mm) (a0 : Nat) (x1 : Int32) (x2 : Int32) (x3 : Int32) (x4 : Int32) (x6 : Int32) : Option (Int32 × Mm) := bX4_wordAt_64 k13 u a0 x1 x2 x3 x4 x6 0
set_option maxRecDepth 100000 in
set_option maxHeartbeats 4000000 in
theorem pX4_wordAt_63 {r : Int32} {u' : Mm} {k13 : Mm → Nat → Int32 → Int32 → Int32 → Int32 → Int32 → Int32 → Option (Int32 × Mm)} (hk13 : ∀ (u : Mm) (a0 : Nat) (x1 : Int32) (x2 : Int32) (x3 : Int32) (x4 : Int32) (x5 : Int32) (x6 : Int32), k13 u a0 x1 x2 x3 x4 x5 x6 = some (r, u') → Eg MX4_wordAt 4 0 0 (some (.int r), u') 13 [(0, .ref a0), (1, .int x1), (2, .int x2), (3, .int x3), (4, .int x4), (5, .int x5), (6, .int x6)] [] u) (u : Mm) (a0 : Nat) (x1 : Int32) (x2 : Int32) (x3 : Int32) (x4 : Int32) (x6 : Int32) (h : bX4_wordAt_63 k13 u a0 x1 x2 x3 x4 x6 = some (r, u')) : Eg MX4_wordAt 4 0 0 (some (.int r), u') 63 [(0, .ref a0), (1, .int x1), (2, .int x2), (3, .int x3), (4, .int x4), (6, .int x6)] [] u := by
  unfold bX4_wordAt_63 at h
  refine E_iconst (v := 0) dX4_wordAt_63 (by decide) ?_
  refine Eg.pick [0, 1, 2, 3, 4, 5] rfl ?_
  exact pX4_wordAt_64 hk13 _ _ _ _ _ _ _ _ h
def bX4_wordAt_13 (k13 : Mm → Nat → Int32 → Int32 → Int32 → Int32 → Int32 → Int32 → Option (Int32 × Mm)) (u : Mm) (a0 : Nat) (x1 : Int32) (x2 : Int32) (x3 : Int32) (x4 : Int32) (x5 : Int32) (x6 : Int32) : Option (Int32 × Mm) := (if (141 : Int32) ≤ x6 then some (284, u) else oSc x6 (fun v1 => (if (v1 : Int32) = 32 then (if (x5 : Int32) = 0 then bX4_wordAt_85 k13 u a0 x1 x2 x3 x6 else (if (x4 : Int32) = x2 then some (x3, u) else bX4_wordAt_85 k13 u a0 x1 x2 x3 x6)) else (if (x5 : Int32) = 0 then bX4_wordAt_63 k13 u a0 x1 x2 x3 x4 x6 else (if (x2 : Int32) ≤ x4 then bX4_wordAt_63 k13 u a0 x1 x2 x3 x4 x6 else oA u a0 10 x4 (oI (mI u a0 (Int32.toNatClampNeg x4)) (fun v2 => (if (v2 : Int32) = v1 then bX4_wordAt_64 k13 u a0 x1 x2 x3 x4 x6 1 else bX4_wordAt_63 k13 u a0 x1 x2 x3 x4 x6))))))))
set_option maxRecDepth 100000 in
set_option maxHeartbeats 4000000 in
theorem pX4_wordAt_13 {r : Int32} {u' : Mm} {k13 : Mm → Nat → Int32 → Int32 → Int32 → Int32 → Int32 → Int32 → Option (Int32 × Mm)} (hk13 : ∀ (u : Mm) (a0 : Nat) (x1 : Int32) (x2 : Int32) (x3 : Int32) (x4 : Int32) (x5 : Int32) (x6 : Int32), k13 u a0 x1 x2 x3 x4 x5 x6 = some (r, u') → Eg MX4_wordAt 4 0 0 (some (.int r), u') 13 [(0, .ref a0), (1, .int x1), (2, .int x2), (3, .int x3), (4, .int x4), (5, .int x5), (6, .int x6)] [] u) (u : Mm) (a0 : Nat) (x1 : Int32) (x2 : Int32) (x3 : Int32) (x4 : Int32) (x5 : Int32) (x6 : Int32) (h : bX4_wordAt_13 k13 u a0 x1 x2 x3 x4 x5 x6 = some (r, u')) : Eg MX4_wordAt 4 0 0 (some (.int r), u') 13 [(0, .ref a0), (1, .int x1), (2, .int x2), (3, .int x3), (4, .int x4), (5, .int x5), (6, .int x6)] [] u := by
  unfold bX4_wordAt_13 at h
  refine E_iload dX4_wordAt_13 rfl ?_
  refine E_slen dX4_wordAt_15 dX4_wordAt_17 rfl (Nat.le_of_ble_eq_true rfl) (Nat.le_of_ble_eq_true rfl) ?_
  refine E_ic_ge (tgt := 100) h dX4_wordAt_20 (by decide) (fun h => ?_) (fun h => ?_)
  · refine E_sipush (v := 284) dX4_wordAt_100 (by decide) ?_
    exact E_iret h dX4_wordAt_103 rfl
  · refine E_schar h dX4_wordAt_23 dX4_wordAt_25 dX4_wordAt_27 rfl (Nat.le_of_ble_eq_true rfl) (Nat.le_of_ble_eq_true rfl) rfl (fun v1 h => ?_)
    refine E_istore (l' := [(7, .int v1), (0, .ref a0), (1, .int x1), (2, .int x2), (3, .int x3), (4, .int x4), (5, .int x5), (6, .int x6)]) dX4_wordAt_30 (Nat.le_of_ble_eq_true rfl) rfl ?_
    refine E_iload dX4_wordAt_32 rfl ?_
    refine E_bipush (v := 32) dX4_wordAt_34 (by decide) ?_
    refine E_ic_eq (tgt := 72) h dX4_wordAt_36 (by decide) (fun h => ?_) (fun h => ?_)
    · refine E_iload dX4_wordAt_72 rfl ?_
      refine E_if_eq (tgt := 85) h dX4_wordAt_74 (by decide) (fun h => ?_) (fun h => ?_)
      · refine Eg.pick [1, 2, 3, 4, 7] rfl ?_
        exact pX4_wordAt_85 hk13 _ _ _ _ _ _ h
      · refine E_iload dX4_wordAt_77 rfl ?_
        refine E_iload_n dX4_wordAt_79 rfl rfl ?_
        refine E_ic_ne (tgt := 85) h dX4_wordAt_80 (by decide) (fun h => ?_) (fun h => ?_)
        · refine Eg.pick [1, 2, 3, 4, 7] rfl ?_
          exact pX4_wordAt_85 hk13 _ _ _ _ _ _ h
        · refine E_iload_n dX4_wordAt_83 rfl rfl ?_
          exact E_iret h dX4_wordAt_84 rfl
    · refine E_iload dX4_wordAt_39 rfl ?_
      refine E_if_eq (tgt := 63) h dX4_wordAt_41 (by decide) (fun h => ?_) (fun h => ?_)
      · refine Eg.pick [1, 2, 3, 4, 5, 7] rfl ?_
        exact pX4_wordAt_63 hk13 _ _ _ _ _ _ _ h
      · refine E_iload dX4_wordAt_44 rfl ?_
        refine E_iload_n dX4_wordAt_46 rfl rfl ?_
        refine E_ic_ge (tgt := 63) h dX4_wordAt_47 (by decide) (fun h => ?_) (fun h => ?_)
        · refine Eg.pick [1, 2, 3, 4, 5, 7] rfl ?_
          exact pX4_wordAt_63 hk13 _ _ _ _ _ _ _ h
        · refine E_aload_n dX4_wordAt_50 rfl rfl ?_
          refine E_iload dX4_wordAt_51 rfl ?_
          refine E_iald h dX4_wordAt_53 (fun h => ?_)
          refine E_oI h (fun v2 h => ?_)
          refine E_iload dX4_wordAt_54 rfl ?_
          refine E_ic_ne (tgt := 63) h dX4_wordAt_56 (by decide) (fun h => ?_) (fun h => ?_)
          · refine Eg.pick [1, 2, 3, 4, 5, 7] rfl ?_
            exact pX4_wordAt_63 hk13 _ _ _ _ _ _ _ h
          · refine E_iconst (v := 1) dX4_wordAt_59 (by decide) ?_
            refine E_goto (tgt := 64) dX4_wordAt_60 (by decide) ?_
            refine Eg.pick [1, 2, 3, 4, 5, 7] rfl ?_
            exact pX4_wordAt_64 hk13 _ _ _ _ _ _ _ _ h
def rX4_wordAt_13 : Nat → Mm → Nat → Int32 → Int32 → Int32 → Int32 → Int32 → Int32 → Option (Int32 × Mm)
  | 0, _, _, _, _, _, _, _, _ => none
  | n + 1, u, a0, x1, x2, x3, x4, x5, x6 => bX4_wordAt_13 (rX4_wordAt_13 n) u a0 x1 x2 x3 x4 x5 x6
theorem prX4_wordAt_13 {r : Int32} {u' : Mm} : ∀ (n : Nat) (u : Mm) (a0 : Nat) (x1 : Int32) (x2 : Int32) (x3 : Int32) (x4 : Int32) (x5 : Int32) (x6 : Int32), rX4_wordAt_13 n u a0 x1 x2 x3 x4 x5 x6 = some (r, u') → Eg MX4_wordAt 4 0 0 (some (.int r), u') 13 [(0, .ref a0), (1, .int x1), (2, .int x2), (3, .int x3), (4, .int x4), (5, .int x5), (6, .int x6)] [] u
  | 0, _, _, _, _, _, _, _, _, h => by cases h
  | n + 1, u, a0, x1, x2, x3, x4, x5, x6, h => pX4_wordAt_13 (prX4_wordAt_13 n) u a0 x1 x2 x3 x4 x5 x6 h
def fX4_wordAt (u : Mm) (a0 : Nat) (x1 : Int32) (x2 : Int32) : Option (Int32 × Mm) := rX4_wordAt_13 hwF u a0 x1 x2 256 x1 1 0
set_option maxRecDepth 100000 in
set_option maxHeartbeats 4000000 in
theorem tX4_wordAt {u : Mm} {a0 : Nat} {x1 : Int32} {x2 : Int32} {r : Int32} {u' : Mm} (h : fX4_wordAt u a0 x1 x2 = some (r, u')) : Ev 4 MX4_wordAt 0 0 [.ref a0, .int x1, .int x2] u (some (.int r), u') := by
  refine Ev.of (by decide +kernel) (Nat.le_of_ble_eq_true rfl) (show Eg MX4_wordAt 4 0 0 (some (.int r), u') 0 [(0, .ref a0), (1, .int x1), (2, .int x2)] [] u from ?_)
  unfold fX4_wordAt at h
  refine E_sipush (v := 256) dX4_wordAt_0 (by decide) ?_
  refine E_istore_n (l' := [(3, .int 256), (0, .ref a0), (1, .int x1), (2, .int x2)]) dX4_wordAt_3 rfl (Nat.le_of_ble_eq_true rfl) rfl ?_
  refine E_iload_n dX4_wordAt_4 rfl rfl ?_
  refine E_istore (l' := [(4, .int x1), (3, .int 256), (0, .ref a0), (1, .int x1), (2, .int x2)]) dX4_wordAt_5 (Nat.le_of_ble_eq_true rfl) rfl ?_
  refine E_iconst (v := 1) dX4_wordAt_7 (by decide) ?_
  refine E_istore (l' := [(5, .int 1), (4, .int x1), (3, .int 256), (0, .ref a0), (1, .int x1), (2, .int x2)]) dX4_wordAt_8 (Nat.le_of_ble_eq_true rfl) rfl ?_
  refine E_iconst (v := 0) dX4_wordAt_10 (by decide) ?_
  refine E_istore (l' := [(6, .int 0), (5, .int 1), (4, .int x1), (3, .int 256), (0, .ref a0), (1, .int x1), (2, .int x2)]) dX4_wordAt_11 (Nat.le_of_ble_eq_true rfl) rfl ?_
  refine Eg.pick [4, 5, 6, 3, 2, 1, 0] rfl ?_
  exact prX4_wordAt_13 _ _ _ _ _ _ _ _ _ h
def bX4_splitTape_116 (k2 : Mm → Nat → Nat → Int32 → Int32 → Option (Unit × Mm)) (u : Mm) (a0 : Nat) (a1 : Nat) (x2 : Int32) (x3 : Int32) : Option (Unit × Mm) := k2 u a0 a1 x2 x3
set_option maxRecDepth 100000 in
set_option maxHeartbeats 4000000 in
theorem pX4_splitTape_116 {r : Unit} {u' : Mm} {k2 : Mm → Nat → Nat → Int32 → Int32 → Option (Unit × Mm)} (hk2 : ∀ (u : Mm) (a0 : Nat) (a1 : Nat) (x2 : Int32) (x3 : Int32), k2 u a0 a1 x2 x3 = some (r, u') → Eg MX4_splitTape 5 0 0 (none, u') 2 [(0, .ref a0), (1, .ref a1), (2, .int x2), (3, .int x3)] [] u) (u : Mm) (a0 : Nat) (a1 : Nat) (x2 : Int32) (x3 : Int32) (h : bX4_splitTape_116 k2 u a0 a1 x2 x3 = some (r, u')) : Eg MX4_splitTape 5 0 0 (none, u') 116 [(0, .ref a0), (1, .ref a1), (2, .int x2), (3, .int x3)] [] u := by
  unfold bX4_splitTape_116 at h
  refine E_goto (tgt := 2) dX4_splitTape_116 (by decide) ?_
  refine Eg.pick [0, 1, 2, 3] rfl ?_
  exact hk2 _ _ _ _ _ h
def bX4_splitTape_52 (k2 : Mm → Nat → Nat → Int32 → Int32 → Option (Unit × Mm)) (u : Mm) (a0 : Nat) (a1 : Nat) (x2 : Int32) (x3 : Int32) (x4 : Int32) (x5 : Int32) (x6 : Int32) : Option (Unit × Mm) := (if (x6 : Int32) = 1 then oB (fX4_wordAt u a1 x4 x3) (fun v9 u10 => oR u10 a0 4 (oB (fX4_addToken u10 a0 v9 0 x4) (fun _ u11 => bX4_splitTape_116 k2 u11 a0 a1 x2 x3))) else (if (x6 : Int32) = 2 then oB (fX4_numberAt u a1 x4 x3) (fun v6 u7 => oR u7 a0 4 (oB (fX4_addToken u7 a0 285 v6 x4) (fun _ u8 => bX4_splitTape_116 k2 u8 a0 a1 x2 x3))) else (if (x5 : Int32) = 32 then bX4_splitTape_116 k2 u a0 a1 x2 x3 else oR u a0 4 (oB (fX4_addToken u a0 x5 0 x4) (fun _ u5 => bX4_splitTape_116 k2 u5 a0 a1 x2 x3)))))
set_option maxRecDepth 100000 in
set_option maxHeartbeats 4000000 in
theorem pX4_splitTape_52 {r : Unit} {u' : Mm} {k2 : Mm → Nat → Nat → Int32 → Int32 → Option (Unit × Mm)} (hk2 : ∀ (u : Mm) (a0 : Nat) (a1 : Nat) (x2 : Int32) (x3 : Int32), k2 u a0 a1 x2 x3 = some (r, u') → Eg MX4_splitTape 5 0 0 (none, u') 2 [(0, .ref a0), (1, .ref a1), (2, .int x2), (3, .int x3)] [] u) (u : Mm) (a0 : Nat) (a1 : Nat) (x2 : Int32) (x3 : Int32) (x4 : Int32) (x5 : Int32) (x6 : Int32) (h : bX4_splitTape_52 k2 u a0 a1 x2 x3 x4 x5 x6 = some (r, u')) : Eg MX4_splitTape 5 0 0 (none, u') 52 [(0, .ref a0), (1, .ref a1), (2, .int x2), (3, .int x3), (4, .int x4), (5, .int x5), (6, .int x6)] [] u := by
  unfold bX4_splitTape_52 at h
  refine E_iload dX4_splitTape_52 rfl ?_
  refine E_iconst (v := 1) dX4_splitTape_54 (by decide) ?_
  refine E_ic_ne (tgt := 75) h dX4_splitTape_55 (by decide) (fun h => ?_) (fun h => ?_)
  · refine E_iload dX4_splitTape_75 rfl ?_
    refine E_iconst (v := 2) dX4_splitTape_77 (by decide) ?_
    refine E_ic_ne (tgt := 100) h dX4_splitTape_78 (by decide) (fun h => ?_) (fun h => ?_)
    · refine E_iload dX4_splitTape_100 rfl ?_
      refine E_bipush (v := 32) dX4_splitTape_102 (by decide) ?_
      refine E_ic_eq (tgt := 116) h dX4_splitTape_104 (by decide) (fun h => ?_) (fun h => ?_)
      · refine Eg.pick [0, 1, 2, 3] rfl ?_
        exact pX4_splitTape_116 hk2 _ _ _ _ _ h
      · refine E_aload_n dX4_splitTape_107 rfl rfl ?_
        refine E_iload dX4_splitTape_108 rfl ?_
        refine E_iconst (v := 0) dX4_splitTape_110 (by decide) ?_
        refine E_iload dX4_splitTape_111 rfl ?_
        refine F_Vv h (fun m e => tX4_addToken e) dX4_splitTape_113 hm_X4_addToken hv_X4_addToken ln_X4_65 rfl rfl (Nat.le_of_ble_eq_true rfl) (Nat.le_of_ble_eq_true rfl) (kc' := 0) (ks' := 0) rfl rfl (fun u5 h => ?_)
        refine Eg.pick [0, 1, 2, 3] rfl ?_
        exact pX4_splitTape_116 hk2 _ _ _ _ _ h
    · refine E_aload_n dX4_splitTape_81 rfl rfl ?_
      refine E_sipush (v := 285) dX4_splitTape_82 (by decide) ?_
      refine E_aload_n dX4_splitTape_85 rfl rfl ?_
      refine E_iload dX4_splitTape_86 rfl ?_
      refine E_iload_n dX4_splitTape_88 rfl rfl ?_
      refine F_Si h (fun a m e => tX4_numberAt e) dX4_splitTape_89 hm_X4_numberAt hs_X4_numberAt ln_X4_69 rfl rfl (Nat.le_of_ble_eq_true rfl) (Nat.le_of_ble_eq_true rfl) (kc' := 0) (ks' := 0) rfl rfl (fun v6 u7 h => ?_)
      refine E_iload dX4_splitTape_92 rfl ?_
      refine F_Vv h (fun m e => tX4_addToken e) dX4_splitTape_94 hm_X4_addToken hv_X4_addToken ln_X4_65 rfl rfl (Nat.le_of_ble_eq_true rfl) (Nat.le_of_ble_eq_true rfl) (kc' := 0) (ks' := 0) rfl rfl (fun u8 h => ?_)
      refine E_goto (tgt := 116) dX4_splitTape_97 (by decide) ?_
      refine Eg.pick [0, 1, 2, 3] rfl ?_
      exact pX4_splitTape_116 hk2 _ _ _ _ _ h
  · refine E_aload_n dX4_splitTape_58 rfl rfl ?_
    refine E_aload_n dX4_splitTape_59 rfl rfl ?_
    refine E_iload dX4_splitTape_60 rfl ?_
    refine E_iload_n dX4_splitTape_62 rfl rfl ?_
    refine F_Si h (fun a m e => tX4_wordAt e) dX4_splitTape_63 hm_X4_wordAt hs_X4_wordAt ln_X4_61 rfl rfl (Nat.le_of_ble_eq_true rfl) (Nat.le_of_ble_eq_true rfl) (kc' := 0) (ks' := 0) rfl rfl (fun v9 u10 h => ?_)
    refine E_iconst (v := 0) dX4_splitTape_66 (by decide) ?_
    refine E_iload dX4_splitTape_67 rfl ?_
    refine F_Vv h (fun m e => tX4_addToken e) dX4_splitTape_69 hm_X4_addToken hv_X4_addToken ln_X4_65 rfl rfl (Nat.le_of_ble_eq_true rfl) (Nat.le_of_ble_eq_true rfl) (kc' := 0) (ks' := 0) rfl rfl (fun u11 h => ?_)
    refine E_goto (tgt := 116) dX4_splitTape_72 (by decide) ?_
    refine Eg.pick [0, 1, 2, 3] rfl ?_
    exact pX4_splitTape_116 hk2 _ _ _ _ _ h
def bX4_splitTape_25 (k2 : Mm → Nat → Nat → Int32 → Int32 → Option (Unit × Mm)) (k25 : Mm → Nat → Nat → Int32 → Int32 → Int32 → Int32 → Int32 → Option (Unit × Mm)) (u : Mm) (a0 : Nat) (a1 : Nat) (x2 : Int32) (x3 : Int32) (x4 : Int32) (x5 : Int32) (x6 : Int32) : Option (Unit × Mm) := (if (x2 : Int32) ≤ x3 then bX4_splitTape_52 k2 u a0 a1 x2 x3 x4 x5 x6 else (if (x6 : Int32) = 0 then bX4_splitTape_52 k2 u a0 a1 x2 x3 x4 x5 x6 else oA u a1 10 x3 (oI (mI u a1 (Int32.toNatClampNeg x3)) (fun v12 => oB (fX4_sortOf u v12) (fun v13 u14 => (if (v13 : Int32) = x6 then k25 u14 a0 a1 x2 (x3 + 1) x4 x5 x6 else bX4_splitTape_52 k2 u14 a0 a1 x2 x3 x4 x5 x6))))))
set_option maxRecDepth 100000 in
set_option maxHeartbeats 4000000 in
theorem pX4_splitTape_25 {r : Unit} {u' : Mm} {k2 : Mm → Nat → Nat → Int32 → Int32 → Option (Unit × Mm)} (hk2 : ∀ (u : Mm) (a0 : Nat) (a1 : Nat) (x2 : Int32) (x3 : Int32), k2 u a0 a1 x2 x3 = some (r, u') → Eg MX4_splitTape 5 0 0 (none, u') 2 [(0, .ref a0), (1, .ref a1), (2, .int x2), (3, .int x3)] [] u) {k25 : Mm → Nat → Nat → Int32 → Int32 → Int32 → Int32 → Int32 → Option (Unit × Mm)} (hk25 : ∀ (u : Mm) (a0 : Nat) (a1 : Nat) (x2 : Int32) (x3 : Int32) (x4 : Int32) (x5 : Int32) (x6 : Int32), k25 u a0 a1 x2 x3 x4 x5 x6 = some (r, u') → Eg MX4_splitTape 5 0 0 (none, u') 25 [(0, .ref a0), (1, .ref a1), (2, .int x2), (3, .int x3), (4, .int x4), (5, .int x5), (6, .int x6)] [] u) (u : Mm) (a0 : Nat) (a1 : Nat) (x2 : Int32) (x3 : Int32) (x4 : Int32) (x5 : Int32) (x6 : Int32) (h : bX4_splitTape_25 k2 k25 u a0 a1 x2 x3 x4 x5 x6 = some (r, u')) : Eg MX4_splitTape 5 0 0 (none, u') 25 [(0, .ref a0), (1, .ref a1), (2, .int x2), (3, .int x3), (4, .int x4), (5, .int x5), (6, .int x6)] [] u := by
  unfold bX4_splitTape_25 at h
  refine E_iload_n dX4_splitTape_25 rfl rfl ?_
  refine E_iload_n dX4_splitTape_26 rfl rfl ?_
  refine E_ic_ge (tgt := 52) h dX4_splitTape_27 (by decide) (fun h => ?_) (fun h => ?_)
  · refine Eg.pick [0, 1, 2, 3, 4, 5, 6] rfl ?_
    exact pX4_splitTape_52 hk2 _ _ _ _ _ _ _ _ h
  · refine E_iload dX4_splitTape_30 rfl ?_
    refine E_if_eq (tgt := 52) h dX4_splitTape_32 (by decide) (fun h => ?_) (fun h => ?_)
    · refine Eg.pick [0, 1, 2, 3, 4, 5, 6] rfl ?_
      exact pX4_splitTape_52 hk2 _ _ _ _ _ _ _ _ h
    · refine E_aload_n dX4_splitTape_35 rfl rfl ?_
      refine E_iload_n dX4_splitTape_36 rfl rfl ?_
      refine E_iald h dX4_splitTape_37 (fun h => ?_)
      refine E_oI h (fun v12 h => ?_)
      refine F_Si h (fun a m e => tX4_sortOf e) dX4_splitTape_38 hm_X4_sortOf hs_X4_sortOf ln_X4_57 rfl rfl (Nat.le_of_ble_eq_true rfl) (Nat.le_of_ble_eq_true rfl) (kc' := 0) (ks' := 0) rfl rfl (fun v13 u14 h => ?_)
      refine E_iload dX4_splitTape_41 rfl ?_
      refine E_ic_ne (tgt := 52) h dX4_splitTape_43 (by decide) (fun h => ?_) (fun h => ?_)
      · refine Eg.pick [0, 1, 2, 3, 4, 5, 6] rfl ?_
        exact pX4_splitTape_52 hk2 _ _ _ _ _ _ _ _ h
      · refine E_iinc (j := 3) (v := x3 + 1) (l' := [(3, .int (x3 + 1)), (0, .ref a0), (1, .ref a1), (2, .int x2), (4, .int x4), (5, .int x5), (6, .int x6)]) dX4_splitTape_46 rfl (addI (by decide)) (Nat.le_of_ble_eq_true rfl) rfl ?_
        refine E_goto (tgt := 25) dX4_splitTape_49 (by decide) ?_
        refine Eg.pick [1, 2, 3, 0, 4, 5, 6] rfl ?_
        exact hk25 _ _ _ _ _ _ _ _ h
def rX4_splitTape_25 (k2 : Mm → Nat → Nat → Int32 → Int32 → Option (Unit × Mm)) : Nat → Mm → Nat → Nat → Int32 → Int32 → Int32 → Int32 → Int32 → Option (Unit × Mm)
  | 0, _, _, _, _, _, _, _, _ => none
  | n + 1, u, a0, a1, x2, x3, x4, x5, x6 => bX4_splitTape_25 k2 (rX4_splitTape_25 k2 n) u a0 a1 x2 x3 x4 x5 x6
theorem prX4_splitTape_25 {r : Unit} {u' : Mm} {k2 : Mm → Nat → Nat → Int32 → Int32 → Option (Unit × Mm)} (hk2 : ∀ (u : Mm) (a0 : Nat) (a1 : Nat) (x2 : Int32) (x3 : Int32), k2 u a0 a1 x2 x3 = some (r, u') → Eg MX4_splitTape 5 0 0 (none, u') 2 [(0, .ref a0), (1, .ref a1), (2, .int x2), (3, .int x3)] [] u) : ∀ (n : Nat) (u : Mm) (a0 : Nat) (a1 : Nat) (x2 : Int32) (x3 : Int32) (x4 : Int32) (x5 : Int32) (x6 : Int32), rX4_splitTape_25 k2 n u a0 a1 x2 x3 x4 x5 x6 = some (r, u') → Eg MX4_splitTape 5 0 0 (none, u') 25 [(0, .ref a0), (1, .ref a1), (2, .int x2), (3, .int x3), (4, .int x4), (5, .int x5), (6, .int x6)] [] u
  | 0, _, _, _, _, _, _, _, _, h => by cases h
  | n + 1, u, a0, a1, x2, x3, x4, x5, x6, h => pX4_splitTape_25 hk2 (prX4_splitTape_25 hk2 n) u a0 a1 x2 x3 x4 x5 x6 h
def bX4_splitTape_2 (k2 : Mm → Nat → Nat → Int32 → Int32 → Option (Unit × Mm)) (u : Mm) (a0 : Nat) (a1 : Nat) (x2 : Int32) (x3 : Int32) : Option (Unit × Mm) := (if (x2 : Int32) ≤ x3 then oR u a0 4 (oB (fX4_addToken u a0 286 0 x2) (fun _ u1 => some ((), u1))) else oA u a1 10 x3 (oI (mI u a1 (Int32.toNatClampNeg x3)) (fun v2 => oB (fX4_sortOf u v2) (fun v3 u4 => rX4_splitTape_25 k2 hwF u4 a0 a1 x2 (x3 + 1) x3 v2 v3))))
set_option maxRecDepth 100000 in
set_option maxHeartbeats 4000000 in
theorem pX4_splitTape_2 {r : Unit} {u' : Mm} {k2 : Mm → Nat → Nat → Int32 → Int32 → Option (Unit × Mm)} (hk2 : ∀ (u : Mm) (a0 : Nat) (a1 : Nat) (x2 : Int32) (x3 : Int32), k2 u a0 a1 x2 x3 = some (r, u') → Eg MX4_splitTape 5 0 0 (none, u') 2 [(0, .ref a0), (1, .ref a1), (2, .int x2), (3, .int x3)] [] u) (u : Mm) (a0 : Nat) (a1 : Nat) (x2 : Int32) (x3 : Int32) (h : bX4_splitTape_2 k2 u a0 a1 x2 x3 = some (r, u')) : Eg MX4_splitTape 5 0 0 (none, u') 2 [(0, .ref a0), (1, .ref a1), (2, .int x2), (3, .int x3)] [] u := by
  unfold bX4_splitTape_2 at h
  refine E_iload_n dX4_splitTape_2 rfl rfl ?_
  refine E_iload_n dX4_splitTape_3 rfl rfl ?_
  refine E_ic_ge (tgt := 119) h dX4_splitTape_4 (by decide) (fun h => ?_) (fun h => ?_)
  · refine E_aload_n dX4_splitTape_119 rfl rfl ?_
    refine E_sipush (v := 286) dX4_splitTape_120 (by decide) ?_
    refine E_iconst (v := 0) dX4_splitTape_123 (by decide) ?_
    refine E_iload_n dX4_splitTape_124 rfl rfl ?_
    refine F_Vv h (fun m e => tX4_addToken e) dX4_splitTape_125 hm_X4_addToken hv_X4_addToken ln_X4_65 rfl rfl (Nat.le_of_ble_eq_true rfl) (Nat.le_of_ble_eq_true rfl) (kc' := 0) (ks' := 0) rfl rfl (fun u1 h => ?_)
    exact E_vret h dX4_splitTape_128 rfl
  · refine E_iload_n dX4_splitTape_7 rfl rfl ?_
    refine E_istore (l' := [(4, .int x3), (0, .ref a0), (1, .ref a1), (2, .int x2), (3, .int x3)]) dX4_splitTape_8 (Nat.le_of_ble_eq_true rfl) rfl ?_
    refine E_aload_n dX4_splitTape_10 rfl rfl ?_
    refine E_iload_n dX4_splitTape_11 rfl rfl ?_
    refine E_iald h dX4_splitTape_12 (fun h => ?_)
    refine E_oI h (fun v2 h => ?_)
    refine E_istore (l' := [(5, .int v2), (4, .int x3), (0, .ref a0), (1, .ref a1), (2, .int x2), (3, .int x3)]) dX4_splitTape_13 (Nat.le_of_ble_eq_true rfl) rfl ?_
    refine E_iload dX4_splitTape_15 rfl ?_
    refine F_Si h (fun a m e => tX4_sortOf e) dX4_splitTape_17 hm_X4_sortOf hs_X4_sortOf ln_X4_57 rfl rfl (Nat.le_of_ble_eq_true rfl) (Nat.le_of_ble_eq_true rfl) (kc' := 0) (ks' := 0) rfl rfl (fun v3 u4 h => ?_)
    refine E_istore (l' := [(6, .int v3), (5, .int v2), (4, .int x3), (0, .ref a0), (1, .ref a1), (2, .int x2), (3, .int x3)]) dX4_splitTape_20 (Nat.le_of_ble_eq_true rfl) rfl ?_
    refine E_iinc (j := 6) (v := x3 + 1) (l' := [(3, .int (x3 + 1)), (6, .int v3), (5, .int v2), (4, .int x3), (0, .ref a0), (1, .ref a1), (2, .int x2)]) dX4_splitTape_22 rfl (addI (by decide)) (Nat.le_of_ble_eq_true rfl) rfl ?_
    refine Eg.pick [4, 5, 6, 0, 3, 2, 1] rfl ?_
    exact prX4_splitTape_25 hk2 _ _ _ _ _ _ _ _ _ h
def rX4_splitTape_2 : Nat → Mm → Nat → Nat → Int32 → Int32 → Option (Unit × Mm)
  | 0, _, _, _, _, _ => none
  | n + 1, u, a0, a1, x2, x3 => bX4_splitTape_2 (rX4_splitTape_2 n) u a0 a1 x2 x3
theorem prX4_splitTape_2 {r : Unit} {u' : Mm} : ∀ (n : Nat) (u : Mm) (a0 : Nat) (a1 : Nat) (x2 : Int32) (x3 : Int32), rX4_splitTape_2 n u a0 a1 x2 x3 = some (r, u') → Eg MX4_splitTape 5 0 0 (none, u') 2 [(0, .ref a0), (1, .ref a1), (2, .int x2), (3, .int x3)] [] u
  | 0, _, _, _, _, _, h => by cases h
  | n + 1, u, a0, a1, x2, x3, h => pX4_splitTape_2 (prX4_splitTape_2 n) u a0 a1 x2 x3 h
def fX4_splitTape (u : Mm) (a0 : Nat) (a1 : Nat) (x2 : Int32) : Option (Unit × Mm) := rX4_splitTape_2 hwF u a0 a1 x2 0
set_option maxRecDepth 100000 in
set_option maxHeartbeats 4000000 in
theorem tX4_splitTape {u : Mm} {a0 : Nat} {a1 : Nat} {x2 : Int32} {r : Unit} {u' : Mm} (h : fX4_splitTape u a0 a1 x2 = some (r, u')) : Ev 5 MX4_splitTape 0 0 [.ref a0, .ref a1, .int x2] u (none, u') := by
  refine Ev.of (by decide +kernel) (Nat.le_of_ble_eq_true rfl) (show Eg MX4_splitTape 5 0 0 (none, u') 0 [(0, .ref a0), (1, .ref a1), (2, .int x2)] [] u from ?_)
  unfold fX4_splitTape at h
  refine E_iconst (v := 0) dX4_splitTape_0 (by decide) ?_
  refine E_istore_n (l' := [(3, .int 0), (0, .ref a0), (1, .ref a1), (2, .int x2)]) dX4_splitTape_1 rfl (Nat.le_of_ble_eq_true rfl) rfl ?_
  refine Eg.pick [1, 2, 3, 0] rfl ?_
  exact prX4_splitTape_2 _ _ _ _ _ _ h
def bX4_readText_115 (u : Mm) (s0 : Int32) : Option (Int32 × Mm) := some (s0, u)
set_option maxRecDepth 100000 in
set_option maxHeartbeats 4000000 in
theorem pX4_readText_115 {r : Int32} {u' : Mm} (u : Mm) (s0 : Int32) (h : bX4_readText_115 u s0 = some (r, u')) : Eg MX4_readText 68 0 0 (some (.int r), u') 115 [] [.int s0] u := by
  unfold bX4_readText_115 at h
  exact E_iret h dX4_readText_115 rfl
def bX4_readText_106 (u : Mm) (a0 : Nat) : Option (Int32 × Mm) := oK u a0 4 8 (oNn (mR u a0 2) (fun e8 => oK u a0 4 8 (oI (mI u a0 4) (fun v9 => oA u e8 10 v9 (oI (mI u e8 (Int32.toNatClampNeg v9)) (fun v10 => bX4_readText_115 u v10))))))
set_option maxRecDepth 100000 in
set_option maxHeartbeats 4000000 in
theorem pX4_readText_106 {r : Int32} {u' : Mm} (u : Mm) (a0 : Nat) (h : bX4_readText_106 u a0 = some (r, u')) : Eg MX4_readText 68 0 0 (some (.int r), u') 106 [(0, .ref a0)] [] u := by
  unfold bX4_readText_106 at h
  refine E_aload_n dX4_readText_106 rfl rfl ?_
  refine E_getA h dX4_readText_107 cf4 lk_X4_18 (by decide) (fun _ _ _ => rfl) (fun e8 h => ?_)
  refine E_aload_n dX4_readText_110 rfl rfl ?_
  refine E_getI h dX4_readText_111 cf4 lk_X4_36 (by decide) (fun _ _ _ => rfl) (fun h => ?_)
  refine E_oI h (fun v9 h => ?_)
  refine E_iald h dX4_readText_114 (fun h => ?_)
  refine E_oI h (fun v10 h => ?_)
  refine Eg.pick [] rfl ?_
  exact pX4_readText_115 _ _ h
def bX4_readText_82 (u : Mm) (a0 : Nat) (x4 : Int32) : Option (Int32 × Mm) := (if (x4 : Int32) = 0 then oK u a0 4 8 (oNn (mR u a0 0) (fun e11 => oK u a0 4 8 (oI (mI u a0 4) (fun v12 => oA u e11 10 v12 (oI (mI u e11 (Int32.toNatClampNeg v12)) (fun v13 => (if (v13 : Int32) = 286 then bX4_readText_115 u ((-1)) else bX4_readText_106 u a0))))))) else bX4_readText_106 u a0)
set_option maxRecDepth 100000 in
set_option maxHeartbeats 4000000 in
theorem pX4_readText_82 {r : Int32} {u' : Mm} (u : Mm) (a0 : Nat) (x4 : Int32) (h : bX4_readText_82 u a0 x4 = some (r, u')) : Eg MX4_readText 68 0 0 (some (.int r), u') 82 [(0, .ref a0), (4, .int x4)] [] u := by
  unfold bX4_readText_82 at h
  refine E_iload dX4_readText_82 rfl ?_
  refine E_if_ne (tgt := 106) h dX4_readText_84 (by decide) (fun h => ?_) (fun h => ?_)
  · refine Eg.pick [0] rfl ?_
    exact pX4_readText_106 _ _ h
  · refine E_aload_n dX4_readText_87 rfl rfl ?_
    refine E_getA h dX4_readText_88 cf4 lk_X4_9 (by decide) (fun _ _ _ => rfl) (fun e11 h => ?_)
    refine E_aload_n dX4_readText_91 rfl rfl ?_
    refine E_getI h dX4_readText_92 cf4 lk_X4_36 (by decide) (fun _ _ _ => rfl) (fun h => ?_)
    refine E_oI h (fun v12 h => ?_)
    refine E_iald h dX4_readText_95 (fun h => ?_)
    refine E_oI h (fun v13 h => ?_)
    refine E_sipush (v := 286) dX4_readText_96 (by decide) ?_
    refine E_ic_ne (tgt := 106) h dX4_readText_99 (by decide) (fun h => ?_) (fun h => ?_)
    · refine Eg.pick [0] rfl ?_
      exact pX4_readText_106 _ _ h
    · refine E_iconst (v := (-1)) dX4_readText_102 (by decide) ?_
      refine E_goto (tgt := 115) dX4_readText_103 (by decide) ?_
      refine Eg.pick [] rfl ?_
      exact pX4_readText_115 _ _ h
def bX4_readText_39 (k39 : Mm → Nat → Int32 → Int32 → Option (Int32 × Mm)) (u : Mm) (a0 : Nat) (x4 : Int32) (x5 : Int32) : Option (Int32 × Mm) := (if (12 : Int32) ≤ x5 then bX4_readText_82 u a0 x4 else (if (x4 : Int32) = 0 then bX4_readText_82 u a0 x4 else oR u a0 4 (oB (fX4_readClause u a0) (fun v14 u15 => (if (v14 : Int32) = 0 then oK u15 a0 4 8 (oNn (mR u15 a0 2) (fun e18 => oK u15 a0 4 8 (oI (mI u15 a0 4) (fun v19 => oA u15 e18 10 v19 (oI (mI u15 e18 (Int32.toNatClampNeg v19)) (fun v20 => some (v20, u15))))))) else oR u15 a0 4 (oB (fX4_skip u15 a0 59) (fun v16 u17 => k39 u17 a0 v16 (x5 + 1))))))))
set_option maxRecDepth 100000 in
set_option maxHeartbeats 4000000 in
theorem pX4_readText_39 {r : Int32} {u' : Mm} {k39 : Mm → Nat → Int32 → Int32 → Option (Int32 × Mm)} (hk39 : ∀ (u : Mm) (a0 : Nat) (x4 : Int32) (x5 : Int32), k39 u a0 x4 x5 = some (r, u') → Eg MX4_readText 68 0 0 (some (.int r), u') 39 [(0, .ref a0), (4, .int x4), (5, .int x5)] [] u) (u : Mm) (a0 : Nat) (x4 : Int32) (x5 : Int32) (h : bX4_readText_39 k39 u a0 x4 x5 = some (r, u')) : Eg MX4_readText 68 0 0 (some (.int r), u') 39 [(0, .ref a0), (4, .int x4), (5, .int x5)] [] u := by
  unfold bX4_readText_39 at h
  refine E_iload dX4_readText_39 rfl ?_
  refine E_bipush (v := 12) dX4_readText_41 (by decide) ?_
  refine E_ic_ge (tgt := 82) h dX4_readText_43 (by decide) (fun h => ?_) (fun h => ?_)
  · refine Eg.pick [0, 1] rfl ?_
    exact pX4_readText_82 _ _ _ h
  · refine E_iload dX4_readText_46 rfl ?_
    refine E_if_eq (tgt := 82) h dX4_readText_48 (by decide) (fun h => ?_) (fun h => ?_)
    · refine Eg.pick [0, 1] rfl ?_
      exact pX4_readText_82 _ _ _ h
    · refine E_aload_n dX4_readText_51 rfl rfl ?_
      refine F_Vi h (fun a m e => tX4_readClause e) dX4_readText_52 hm_X4_readClause hv_X4_readClause ln_X4_49 rfl rfl (Nat.le_of_ble_eq_true rfl) (Nat.le_of_ble_eq_true rfl) (kc' := 0) (ks' := 0) rfl rfl (fun v14 u15 h => ?_)
      refine E_if_ne (tgt := 68) h dX4_readText_55 (by decide) (fun h => ?_) (fun h => ?_)
      · refine E_aload_n dX4_readText_68 rfl rfl ?_
        refine E_bipush (v := 59) dX4_readText_69 (by decide) ?_
        refine F_Vi h (fun a m e => tX4_skip e) dX4_readText_71 hm_X4_skip hv_X4_skip ln_X4_53 rfl rfl (Nat.le_of_ble_eq_true rfl) (Nat.le_of_ble_eq_true rfl) (kc' := 0) (ks' := 0) rfl rfl (fun v16 u17 h => ?_)
        refine E_istore (l' := [(4, .int v16), (0, .ref a0), (5, .int x5)]) dX4_readText_74 (Nat.le_of_ble_eq_true rfl) rfl ?_
        refine E_iinc (j := 2) (v := x5 + 1) (l' := [(5, .int (x5 + 1)), (4, .int v16), (0, .ref a0)]) dX4_readText_76 rfl (addI (by decide)) (Nat.le_of_ble_eq_true rfl) rfl ?_
        refine E_goto (tgt := 39) dX4_readText_79 (by decide) ?_
        refine Eg.pick [2, 1, 0] rfl ?_
        exact hk39 _ _ _ _ h
      · refine E_aload_n dX4_readText_58 rfl rfl ?_
        refine E_getA h dX4_readText_59 cf4 lk_X4_18 (by decide) (fun _ _ _ => rfl) (fun e18 h => ?_)
        refine E_aload_n dX4_readText_62 rfl rfl ?_
        refine E_getI h dX4_readText_63 cf4 lk_X4_36 (by decide) (fun _ _ _ => rfl) (fun h => ?_)
        refine E_oI h (fun v19 h => ?_)
        refine E_iald h dX4_readText_66 (fun h => ?_)
        refine E_oI h (fun v20 h => ?_)
        exact E_iret h dX4_readText_67 rfl
def rX4_readText_39 : Nat → Mm → Nat → Int32 → Int32 → Option (Int32 × Mm)
  | 0, _, _, _, _ => none
  | n + 1, u, a0, x4, x5 => bX4_readText_39 (rX4_readText_39 n) u a0 x4 x5
theorem prX4_readText_39 {r : Int32} {u' : Mm} : ∀ (n : Nat) (u : Mm) (a0 : Nat) (x4 : Int32) (x5 : Int32), rX4_readText_39 n u a0 x4 x5 = some (r, u') → Eg MX4_readText 68 0 0 (some (.int r), u') 39 [(0, .ref a0), (4, .int x4), (5, .int x5)] [] u
  | 0, _, _, _, _, h => by cases h
  | n + 1, u, a0, x4, x5, h => pX4_readText_39 (prX4_readText_39 n) u a0 x4 x5 h
def fX4_readText (u : Mm) (a0 : Nat) (a1 : Nat) (x2 : Int32) (x3 : Int32) : Option (Int32 × Mm) := oK u a0 4 8 (oZ x3 (oU (wI u a0 (upd (mI u a0) 6 x3)) (fun u1 => oK u1 a0 4 8 (oU (wI u1 a0 (upd (mI u1 a0) 3 0)) (fun u2 => oK u2 a0 4 8 (oU (wI u2 a0 (upd (mI u2 a0) 4 0)) (fun u3 => oK u3 a0 4 8 (oU (wI u3 a0 (upd (mI u3 a0) 5 0)) (fun u4 => oK u4 a0 4 8 (oNn (mR u4 a0 7) (fun e5 => oR u4 e5 6 (oB (fX6_clear u4 e5) (fun _ u6 => oR u6 a0 4 (oB (fX4_splitTape u6 a0 a1 x2) (fun _ u7 => rX4_readText_39 hwF u7 a0 1 0)))))))))))))))
set_option maxRecDepth 100000 in
set_option maxHeartbeats 4000000 in
theorem tX4_readText {u : Mm} {a0 : Nat} {a1 : Nat} {x2 : Int32} {x3 : Int32} {r : Int32} {u' : Mm} (h : fX4_readText u a0 a1 x2 x3 = some (r, u')) : Ev 68 MX4_readText 0 0 [.ref a0, .ref a1, .int x2, .int x3] u (some (.int r), u') := by
  refine Ev.of (by decide +kernel) (Nat.le_of_ble_eq_true rfl) (show Eg MX4_readText 68 0 0 (some (.int r), u') 0 [(0, .ref a0), (1, .ref a1), (2, .int x2), (3, .int x3)] [] u from ?_)
  unfold fX4_readText at h
  refine E_aload_n dX4_readText_0 rfl rfl ?_
  refine E_iload_n dX4_readText_1 rfl rfl ?_
  refine E_putZ h dX4_readText_2 cf4 lk_X4_28 (by decide) (Or.inl rfl) rfl (fun h => ?_)
  refine E_oU h (fun u1 h => ?_)
  refine E_aload_n dX4_readText_5 rfl rfl ?_
  refine E_iconst (v := 0) dX4_readText_6 (by decide) ?_
  refine E_putI h dX4_readText_7 cf4 lk_X4_32 (by decide) (Or.inl rfl) rfl (fun h => ?_)
  refine E_oU h (fun u2 h => ?_)
  refine E_aload_n dX4_readText_10 rfl rfl ?_
  refine E_iconst (v := 0) dX4_readText_11 (by decide) ?_
  refine E_putI h dX4_readText_12 cf4 lk_X4_36 (by decide) (Or.inl rfl) rfl (fun h => ?_)
  refine E_oU h (fun u3 h => ?_)
  refine E_aload_n dX4_readText_15 rfl rfl ?_
  refine E_iconst (v := 0) dX4_readText_16 (by decide) ?_
  refine E_putI h dX4_readText_17 cf4 lk_X4_39 (by decide) (Or.inl rfl) rfl (fun h => ?_)
  refine E_oU h (fun u4 h => ?_)
  refine E_aload_n dX4_readText_20 rfl rfl ?_
  refine E_getA h dX4_readText_21 cf4 lk_X4_24 (by decide) (fun _ _ _ => rfl) (fun e5 h => ?_)
  refine F_Vv h (fun m e => tX6_clear e) dX4_readText_24 hm_X6_clear hv_X6_clear ln_X4_42 rfl rfl (Nat.le_of_ble_eq_true rfl) (Nat.le_of_ble_eq_true rfl) (kc' := 0) (ks' := 0) rfl rfl (fun u6 h => ?_)
  refine E_aload_n dX4_readText_27 rfl rfl ?_
  refine E_aload_n dX4_readText_28 rfl rfl ?_
  refine E_iload_n dX4_readText_29 rfl rfl ?_
  refine F_Vv h (fun m e => tX4_splitTape e) dX4_readText_30 hm_X4_splitTape hv_X4_splitTape ln_X4_45 rfl rfl (Nat.le_of_ble_eq_true rfl) (Nat.le_of_ble_eq_true rfl) (kc' := 0) (ks' := 0) rfl rfl (fun u7 h => ?_)
  refine E_iconst (v := 1) dX4_readText_33 (by decide) ?_
  refine E_istore (l' := [(4, .int 1), (0, .ref a0), (1, .ref a1), (2, .int x2), (3, .int x3)]) dX4_readText_34 (Nat.le_of_ble_eq_true rfl) rfl ?_
  refine E_iconst (v := 0) dX4_readText_36 (by decide) ?_
  refine E_istore (l' := [(5, .int 0), (4, .int 1), (0, .ref a0), (1, .ref a1), (2, .int x2), (3, .int x3)]) dX4_readText_37 (Nat.le_of_ble_eq_true rfl) rfl ?_
  refine Eg.pick [2, 1, 0] rfl ?_
  exact prX4_readText_39 _ _ _ _ _ h
def fX8_law (u : Mm) (a0 : Nat) : Option (Int32 × Mm) := oK u a0 8 19 (oI (mI u a0 12) (fun v1 => oK u a0 8 19 (oU (wI u a0 (upd (mI u a0) 12 0)) (fun u2 => oK u2 a0 8 19 (oNn (mR u2 a0 0) (fun e3 => oK u2 e3 0 16 (oI (mI u2 e3 14) (fun v4 => (if (v4 : Int32) < 6 then oK u2 a0 8 19 (oNn (mR u2 a0 3) (fun e5 => oK u2 a0 8 19 (oNn (mR u2 a0 11) (fun e6 => oR u2 e5 4 (oB (fX4_readText u2 e5 e6 v1 1) (fun v7 u8 => oK u8 a0 8 19 (oU (wI u8 a0 (upd (mI u8 a0) 13 v7)) (fun u9 => oK u9 a0 8 19 (oI (mI u9 a0 13) (fun v10 => (if (v10 : Int32) = ((-1)) then oK u9 a0 8 19 (oNn (mR u9 a0 0) (fun e11 => oK u9 e11 0 16 (oI (mI u9 e11 14) (fun v12 => oK u9 a0 8 19 (oNn (mR u9 a0 0) (fun e13 => oK u9 e13 0 16 (oNn (mR u9 e13 13) (fun e14 => oP (mN u9) (fun e15 => oU (wN u9 6 7) (fun u16 => oK u16 a0 8 19 (oNn (mR u16 a0 3) (fun e17 => oK u16 e17 4 8 (oNn (mR u16 e17 7) (fun e18 => oB (fX6_init_ u16 e15 e18) (fun _ u19 => oA u19 e14 14 v12 (oS u19 ((some e15)) 6 (oU (wR u19 e14 (va_up (mR u19 e14) (Int32.toNatClampNeg v12) ((some e15)))) (fun u20 => oK u20 a0 8 19 (oNn (mR u20 a0 0) (fun e21 => oK u20 e21 0 16 (oI (mI u20 e21 14) (fun v22 => oK u20 e21 0 16 (oU (wI u20 e21 (upd (mI u20 e21) 14 (v22 + 1))) (fun u23 => oR u23 a0 8 (oB (fX8_accept u23 a0 v12) (fun v24 u25 => some (v24, u25))))))))))))))))))))))))))) else oR u9 a0 8 (oB (fX8_refuse u9 a0 ((-6))) (fun v26 u27 => some (v26, u27)))))))))))))) else oR u2 a0 8 (oB (fX8_refuse u2 a0 ((-5))) (fun v28 u29 => some (v28, u29))))))))))))
set_option maxRecDepth 100000 in
set_option maxHeartbeats 4000000 in
theorem tX8_law {u : Mm} {a0 : Nat} {r : Int32} {u' : Mm} (h : fX8_law u a0 = some (r, u')) : Ev 69 MX8_law 6 881 [.ref a0] u (some (.int r), u') := by
  refine Ev.of (by decide +kernel) (Nat.le_of_ble_eq_true rfl) (show Eg MX8_law 69 6 881 (some (.int r), u') 0 [(0, .ref a0)] [] u from ?_)
  unfold fX8_law at h
  refine E_aload_n dX8_law_0 rfl rfl ?_
  refine E_getI h dX8_law_1 cf8 lk_X8_181 (by decide) (fun _ _ _ => rfl) (fun h => ?_)
  refine E_oI h (fun v1 h => ?_)
  refine E_istore_n (l' := [(1, .int v1), (0, .ref a0)]) dX8_law_4 rfl (Nat.le_of_ble_eq_true rfl) rfl ?_
  refine E_aload_n dX8_law_5 rfl rfl ?_
  refine E_iconst (v := 0) dX8_law_6 (by decide) ?_
  refine E_putI h dX8_law_7 cf8 lk_X8_181 (by decide) (Or.inl rfl) rfl (fun h => ?_)
  refine E_oU h (fun u2 h => ?_)
  refine E_aload_n dX8_law_10 rfl rfl ?_
  refine E_getA h dX8_law_11 cf8 lk_X8_10 (by decide) (fun _ _ _ => rfl) (fun e3 h => ?_)
  refine E_getI h dX8_law_14 cf0 lk_X8_194 (by decide) (fun _ _ _ => rfl) (fun h => ?_)
  refine E_oI h (fun v4 h => ?_)
  refine E_bipush (v := 6) dX8_law_17 (by decide) ?_
  refine E_ic_lt (tgt := 29) h dX8_law_19 (by decide) (fun h => ?_) (fun h => ?_)
  · refine E_aload_n dX8_law_29 rfl rfl ?_
    refine E_aload_n dX8_law_30 rfl rfl ?_
    refine E_getA h dX8_law_31 cf8 lk_X8_37 (by decide) (fun _ _ _ => rfl) (fun e5 h => ?_)
    refine E_aload_n dX8_law_34 rfl rfl ?_
    refine E_getA h dX8_law_35 cf8 lk_X8_68 (by decide) (fun _ _ _ => rfl) (fun e6 h => ?_)
    refine E_iload_n dX8_law_38 rfl rfl ?_
    refine E_iconst (v := 1) dX8_law_39 (by decide) ?_
    refine F_Vi h (fun a m e => tX4_readText e) dX8_law_40 hm_X4_readText hv_X4_readText ln_X8_197 rfl rfl (Nat.le_of_ble_eq_true rfl) (Nat.le_of_ble_eq_true rfl) (kc' := 6) (ks' := 881) rfl rfl (fun v7 u8 h => ?_)
    refine E_putI h dX8_law_43 cf8 lk_X8_72 (by decide) (Or.inl rfl) rfl (fun h => ?_)
    refine E_oU h (fun u9 h => ?_)
    refine E_aload_n dX8_law_46 rfl rfl ?_
    refine E_getI h dX8_law_47 cf8 lk_X8_72 (by decide) (fun _ _ _ => rfl) (fun h => ?_)
    refine E_oI h (fun v10 h => ?_)
    refine E_iconst (v := (-1)) dX8_law_50 (by decide) ?_
    refine E_ic_eq (tgt := 61) h dX8_law_51 (by decide) (fun h => ?_) (fun h => ?_)
    · refine E_aload_n dX8_law_61 rfl rfl ?_
      refine E_getA h dX8_law_62 cf8 lk_X8_10 (by decide) (fun _ _ _ => rfl) (fun e11 h => ?_)
      refine E_getI h dX8_law_65 cf0 lk_X8_194 (by decide) (fun _ _ _ => rfl) (fun h => ?_)
      refine E_oI h (fun v12 h => ?_)
      refine E_istore_n (l' := [(2, .int v12), (1, .int v1), (0, .ref a0)]) dX8_law_68 rfl (Nat.le_of_ble_eq_true rfl) rfl ?_
      refine E_aload_n dX8_law_69 rfl rfl ?_
      refine E_getA h dX8_law_70 cf8 lk_X8_10 (by decide) (fun _ _ _ => rfl) (fun e13 h => ?_)
      refine E_getA h dX8_law_73 cf0 lk_X8_201 (by decide) (fun _ _ _ => rfl) (fun e14 h => ?_)
      refine E_iload_n dX8_law_76 rfl rfl ?_
      refine E_new dX8_law_77 cf6 cl_X8_205 in_X6 ini_X6 nf_X6 (kc' := 5) (ks' := 874) rfl rfl ?_
      refine E_oP h (fun e15 h => ?_)
      refine E_oU h (fun u16 h => ?_)
      refine E_dup dX8_law_80 rfl ?_
      refine E_aload_n dX8_law_81 rfl rfl ?_
      refine E_getA h dX8_law_82 cf8 lk_X8_37 (by decide) (fun _ _ _ => rfl) (fun e17 h => ?_)
      refine E_getA h dX8_law_85 cf4 lk_X8_207 (by decide) (fun _ _ _ => rfl) (fun e18 h => ?_)
      refine F_Iv h (fun m e => tX6_init_ e) rfl dX8_law_88 hm_X6_init_ rfl hi_X6_init_ ln_X8_211 rfl rfl (Nat.le_of_ble_eq_true rfl) (Nat.le_of_ble_eq_true rfl) (kc' := 0) (ks' := 0) rfl rfl (fun u19 h => ?_)
      refine E_aast (x := (some e15)) (kd := 14) (t0 := 4) (ci := 6) (fun _ => rfl) (Or.inr rfl) rfl (by decide) h dX8_law_91 (fun h => ?_)
      refine E_oU h (fun u20 h => ?_)
      refine E_aload_n dX8_law_92 rfl rfl ?_
      refine E_getA h dX8_law_93 cf8 lk_X8_10 (by decide) (fun _ _ _ => rfl) (fun e21 h => ?_)
      refine E_dup dX8_law_96 rfl ?_
      refine E_getI h dX8_law_97 cf0 lk_X8_194 (by decide) (fun _ _ _ => rfl) (fun h => ?_)
      refine E_oI h (fun v22 h => ?_)
      refine E_iconst (v := 1) dX8_law_100 (by decide) ?_
      refine E_iadd dX8_law_101 ?_
      refine E_putI h dX8_law_102 cf0 lk_X8_194 (by decide) (Or.inl rfl) rfl (fun h => ?_)
      refine E_oU h (fun u23 h => ?_)
      refine E_aload_n dX8_law_105 rfl rfl ?_
      refine E_iload_n dX8_law_106 rfl rfl ?_
      refine F_Vi h (fun a m e => tX8_accept e) dX8_law_107 hm_X8_accept hv_X8_accept ln_X8_114 rfl rfl (Nat.le_of_ble_eq_true rfl) (Nat.le_of_ble_eq_true rfl) (kc' := 0) (ks' := 0) rfl rfl (fun v24 u25 h => ?_)
      exact E_iret h dX8_law_110 rfl
    · refine E_aload_n dX8_law_54 rfl rfl ?_
      refine E_bipush (v := (-6)) dX8_law_55 (by decide) ?_
      refine F_Vi h (fun a m e => tX8_refuse e) dX8_law_57 hm_X8_refuse hv_X8_refuse ln_X8_96 rfl rfl (Nat.le_of_ble_eq_true rfl) (Nat.le_of_ble_eq_true rfl) (kc' := 6) (ks' := 881) rfl rfl (fun v26 u27 h => ?_)
      exact E_iret h dX8_law_60 rfl
  · refine E_aload_n dX8_law_22 rfl rfl ?_
    refine E_bipush (v := (-5)) dX8_law_23 (by decide) ?_
    refine F_Vi h (fun a m e => tX8_refuse e) dX8_law_25 hm_X8_refuse hv_X8_refuse ln_X8_96 rfl rfl (Nat.le_of_ble_eq_true rfl) (Nat.le_of_ble_eq_true rfl) (kc' := 6) (ks' := 881) rfl rfl (fun v28 u29 h => ?_)
    exact E_iret h dX8_law_28 rfl
def fX8_orders (u : Mm) (a0 : Nat) : Option (Int32 × Mm) := oK u a0 8 19 (oNn (mR u a0 3) (fun e1 => oK u a0 8 19 (oNn (mR u a0 11) (fun e2 => oK u a0 8 19 (oI (mI u a0 12) (fun v3 => oR u e1 4 (oB (fX4_readText u e1 e2 v3 0) (fun v4 u5 => oK u5 a0 8 19 (oU (wI u5 a0 (upd (mI u5 a0) 13 v4)) (fun u6 => oK u6 a0 8 19 (oU (wI u6 a0 (upd (mI u6 a0) 12 0)) (fun u7 => oK u7 a0 8 19 (oU (wI u7 a0 (upd (mI u7 a0) 15 ((-1)))) (fun u8 => oK u8 a0 8 19 (oI (mI u8 a0 13) (fun v9 => (if (v9 : Int32) = ((-1)) then oK u8 a0 8 19 (oNn (mR u8 a0 8) (fun e10 => oK u8 a0 8 19 (oNn (mR u8 a0 0) (fun e11 => oK u8 e11 0 16 (oNn (mR u8 e11 0) (fun e12 => oR u8 e10 1 (oB (fX1_copyFrom u8 e10 e12) (fun _ u13 => oK u13 a0 8 19 (oNn (mR u13 a0 6) (fun e14 => oK u13 a0 8 19 (oNn (mR u13 a0 5) (fun e15 => oR u13 e14 3 (oB (fX3_copyFrom u13 e14 e15) (fun _ u16 => oK u16 a0 8 19 (oNn (mR u16 a0 3) (fun e17 => oK u16 e17 4 8 (oNn (mR u16 e17 7) (fun e18 => oR u16 a0 8 (oB (fX8_runOrders u16 a0 e18) (fun v19 u20 => (if 0 ≤ (v19 : Int32) then oR u20 a0 8 (oB (fX8_accept u20 a0 v19) (fun v21 u22 => some (v21, u22))) else oK u20 a0 8 19 (oNn (mR u20 a0 0) (fun e23 => oK u20 e23 0 16 (oNn (mR u20 e23 0) (fun e24 => oK u20 a0 8 19 (oNn (mR u20 a0 8) (fun e25 => oR u20 e24 1 (oB (fX1_copyFrom u20 e24 e25) (fun _ u26 => oK u26 a0 8 19 (oNn (mR u26 a0 5) (fun e27 => oK u26 a0 8 19 (oNn (mR u26 a0 6) (fun e28 => oR u26 e27 3 (oB (fX3_copyFrom u26 e27 e28) (fun _ u29 => oR u29 a0 8 (oB (fX8_refuse u29 a0 ((-3))) (fun v30 u31 => some (v30, u31)))))))))))))))))))))))))))))))))))))) else oR u8 a0 8 (oB (fX8_refuse u8 a0 ((-6))) (fun v32 u33 => some (v32, u33))))))))))))))))))))
set_option maxRecDepth 100000 in
set_option maxHeartbeats 4000000 in
theorem tX8_orders {u : Mm} {a0 : Nat} {r : Int32} {u' : Mm} (h : fX8_orders u a0 = some (r, u')) : Ev 69 MX8_orders 0 0 [.ref a0] u (some (.int r), u') := by
  refine Ev.of (by decide +kernel) (Nat.le_of_ble_eq_true rfl) (show Eg MX8_orders 69 0 0 (some (.int r), u') 0 [(0, .ref a0)] [] u from ?_)
  unfold fX8_orders at h
  refine E_aload_n dX8_orders_0 rfl rfl ?_
  refine E_aload_n dX8_orders_1 rfl rfl ?_
  refine E_getA h dX8_orders_2 cf8 lk_X8_37 (by decide) (fun _ _ _ => rfl) (fun e1 h => ?_)
  refine E_aload_n dX8_orders_5 rfl rfl ?_
  refine E_getA h dX8_orders_6 cf8 lk_X8_68 (by decide) (fun _ _ _ => rfl) (fun e2 h => ?_)
  refine E_aload_n dX8_orders_9 rfl rfl ?_
  refine E_getI h dX8_orders_10 cf8 lk_X8_181 (by decide) (fun _ _ _ => rfl) (fun h => ?_)
  refine E_oI h (fun v3 h => ?_)
  refine E_iconst (v := 0) dX8_orders_13 (by decide) ?_
  refine F_Vi h (fun a m e => tX4_readText e) dX8_orders_14 hm_X4_readText hv_X4_readText ln_X8_197 rfl rfl (Nat.le_of_ble_eq_true rfl) (Nat.le_of_ble_eq_true rfl) (kc' := 0) (ks' := 0) rfl rfl (fun v4 u5 h => ?_)
  refine E_putI h dX8_orders_17 cf8 lk_X8_72 (by decide) (Or.inl rfl) rfl (fun h => ?_)
  refine E_oU h (fun u6 h => ?_)
  refine E_aload_n dX8_orders_20 rfl rfl ?_
  refine E_iconst (v := 0) dX8_orders_21 (by decide) ?_
  refine E_putI h dX8_orders_22 cf8 lk_X8_181 (by decide) (Or.inl rfl) rfl (fun h => ?_)
  refine E_oU h (fun u7 h => ?_)
  refine E_aload_n dX8_orders_25 rfl rfl ?_
  refine E_iconst (v := (-1)) dX8_orders_26 (by decide) ?_
  refine E_putI h dX8_orders_27 cf8 lk_X8_76 (by decide) (Or.inl rfl) rfl (fun h => ?_)
  refine E_oU h (fun u8 h => ?_)
  refine E_aload_n dX8_orders_30 rfl rfl ?_
  refine E_getI h dX8_orders_31 cf8 lk_X8_72 (by decide) (fun _ _ _ => rfl) (fun h => ?_)
  refine E_oI h (fun v9 h => ?_)
  refine E_iconst (v := (-1)) dX8_orders_34 (by decide) ?_
  refine E_ic_eq (tgt := 45) h dX8_orders_35 (by decide) (fun h => ?_) (fun h => ?_)
  · refine E_aload_n dX8_orders_45 rfl rfl ?_
    refine E_getA h dX8_orders_46 cf8 lk_X8_62 (by decide) (fun _ _ _ => rfl) (fun e10 h => ?_)
    refine E_aload_n dX8_orders_49 rfl rfl ?_
    refine E_getA h dX8_orders_50 cf8 lk_X8_10 (by decide) (fun _ _ _ => rfl) (fun e11 h => ?_)
    refine E_getA h dX8_orders_53 cf0 lk_X8_100 (by decide) (fun _ _ _ => rfl) (fun e12 h => ?_)
    refine F_Vv h (fun m e => tX1_copyFrom e) dX8_orders_56 hm_X1_copyFrom hv_X1_copyFrom ln_X8_214 rfl rfl (Nat.le_of_ble_eq_true rfl) (Nat.le_of_ble_eq_true rfl) (kc' := 0) (ks' := 0) rfl rfl (fun u13 h => ?_)
    refine E_aload_n dX8_orders_59 rfl rfl ?_
    refine E_getA h dX8_orders_60 cf8 lk_X8_52 (by decide) (fun _ _ _ => rfl) (fun e14 h => ?_)
    refine E_aload_n dX8_orders_63 rfl rfl ?_
    refine E_getA h dX8_orders_64 cf8 lk_X8_48 (by decide) (fun _ _ _ => rfl) (fun e15 h => ?_)
    refine F_Vv h (fun m e => tX3_copyFrom e) dX8_orders_67 hm_X3_copyFrom hv_X3_copyFrom ln_X8_218 rfl rfl (Nat.le_of_ble_eq_true rfl) (Nat.le_of_ble_eq_true rfl) (kc' := 0) (ks' := 0) rfl rfl (fun u16 h => ?_)
    refine E_aload_n dX8_orders_70 rfl rfl ?_
    refine E_aload_n dX8_orders_71 rfl rfl ?_
    refine E_getA h dX8_orders_72 cf8 lk_X8_37 (by decide) (fun _ _ _ => rfl) (fun e17 h => ?_)
    refine E_getA h dX8_orders_75 cf4 lk_X8_207 (by decide) (fun _ _ _ => rfl) (fun e18 h => ?_)
    refine F_Vi h (fun a m e => tX8_runOrders e) dX8_orders_78 hm_X8_runOrders hv_X8_runOrders ln_X8_221 rfl rfl (Nat.le_of_ble_eq_true rfl) (Nat.le_of_ble_eq_true rfl) (kc' := 0) (ks' := 0) rfl rfl (fun v19 u20 h => ?_)
    refine E_istore_n (l' := [(1, .int v19), (0, .ref a0)]) dX8_orders_81 rfl (Nat.le_of_ble_eq_true rfl) rfl ?_
    refine E_iload_n dX8_orders_82 rfl rfl ?_
    refine E_if_ge (tgt := 118) h dX8_orders_83 (by decide) (fun h => ?_) (fun h => ?_)
    · refine E_aload_n dX8_orders_118 rfl rfl ?_
      refine E_iload_n dX8_orders_119 rfl rfl ?_
      refine F_Vi h (fun a m e => tX8_accept e) dX8_orders_120 hm_X8_accept hv_X8_accept ln_X8_114 rfl rfl (Nat.le_of_ble_eq_true rfl) (Nat.le_of_ble_eq_true rfl) (kc' := 0) (ks' := 0) rfl rfl (fun v21 u22 h => ?_)
      exact E_iret h dX8_orders_123 rfl
    · refine E_aload_n dX8_orders_86 rfl rfl ?_
      refine E_getA h dX8_orders_87 cf8 lk_X8_10 (by decide) (fun _ _ _ => rfl) (fun e23 h => ?_)
      refine E_getA h dX8_orders_90 cf0 lk_X8_100 (by decide) (fun _ _ _ => rfl) (fun e24 h => ?_)
      refine E_aload_n dX8_orders_93 rfl rfl ?_
      refine E_getA h dX8_orders_94 cf8 lk_X8_62 (by decide) (fun _ _ _ => rfl) (fun e25 h => ?_)
      refine F_Vv h (fun m e => tX1_copyFrom e) dX8_orders_97 hm_X1_copyFrom hv_X1_copyFrom ln_X8_214 rfl rfl (Nat.le_of_ble_eq_true rfl) (Nat.le_of_ble_eq_true rfl) (kc' := 0) (ks' := 0) rfl rfl (fun u26 h => ?_)
      refine E_aload_n dX8_orders_100 rfl rfl ?_
      refine E_getA h dX8_orders_101 cf8 lk_X8_48 (by decide) (fun _ _ _ => rfl) (fun e27 h => ?_)
      refine E_aload_n dX8_orders_104 rfl rfl ?_
      refine E_getA h dX8_orders_105 cf8 lk_X8_52 (by decide) (fun _ _ _ => rfl) (fun e28 h => ?_)
      refine F_Vv h (fun m e => tX3_copyFrom e) dX8_orders_108 hm_X3_copyFrom hv_X3_copyFrom ln_X8_218 rfl rfl (Nat.le_of_ble_eq_true rfl) (Nat.le_of_ble_eq_true rfl) (kc' := 0) (ks' := 0) rfl rfl (fun u29 h => ?_)
      refine E_aload_n dX8_orders_111 rfl rfl ?_
      refine E_bipush (v := (-3)) dX8_orders_112 (by decide) ?_
      refine F_Vi h (fun a m e => tX8_refuse e) dX8_orders_114 hm_X8_refuse hv_X8_refuse ln_X8_96 rfl rfl (Nat.le_of_ble_eq_true rfl) (Nat.le_of_ble_eq_true rfl) (kc' := 0) (ks' := 0) rfl rfl (fun v30 u31 h => ?_)
      exact E_iret h dX8_orders_117 rfl
  · refine E_aload_n dX8_orders_38 rfl rfl ?_
    refine E_bipush (v := (-6)) dX8_orders_39 (by decide) ?_
    refine F_Vi h (fun a m e => tX8_refuse e) dX8_orders_41 hm_X8_refuse hv_X8_refuse ln_X8_96 rfl rfl (Nat.le_of_ble_eq_true rfl) (Nat.le_of_ble_eq_true rfl) (kc' := 0) (ks' := 0) rfl rfl (fun v32 u33 h => ?_)
    exact E_iret h dX8_orders_44 rfl
