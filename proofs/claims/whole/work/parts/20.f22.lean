/-! ===== methods as functions, with their contracts (printed by program) ===== -/
def bX9_isSeen_43 (k6 : Mm → Int32 → Int32 → Int32 → Int32 → Int32 → Option (Int32 × Mm)) (u : Mm) (x1 : Int32) (x2 : Int32) (x3 : Int32) (x5 : Int32) (s0 : Int32) : Option (Int32 × Mm) := k6 u x1 x2 x3 s0 (x5 + 1)
set_option maxRecDepth 100000 in
set_option maxHeartbeats 4000000 in
theorem pX9_isSeen_43 {r : Int32} {u' : Mm} {k6 : Mm → Int32 → Int32 → Int32 → Int32 → Int32 → Option (Int32 × Mm)} (hk6 : ∀ (u : Mm) (x1 : Int32) (x2 : Int32) (x3 : Int32) (x4 : Int32) (x5 : Int32), k6 u x1 x2 x3 x4 x5 = some (r, u') → Eg MX9_isSeen 1 0 0 (some (.int r), u') 6 [(1, .int x1), (2, .int x2), (3, .int x3), (4, .int x4), (5, .int x5)] [] u) (u : Mm) (x1 : Int32) (x2 : Int32) (x3 : Int32) (x5 : Int32) (s0 : Int32) (h : bX9_isSeen_43 k6 u x1 x2 x3 x5 s0 = some (r, u')) : Eg MX9_isSeen 1 0 0 (some (.int r), u') 43 [(1, .int x1), (2, .int x2), (3, .int x3), (5, .int x5)] [.int s0] u := by
  unfold bX9_isSeen_43 at h
  refine E_istore (l' := [(4, .int s0), (1, .int x1), (2, .int x2), (3, .int x3), (5, .int x5)]) dX9_isSeen_43 (Nat.le_of_ble_eq_true rfl) rfl ?_
  refine E_iinc (j := 4) (v := x5 + 1) (l' := [(5, .int (x5 + 1)), (4, .int s0), (1, .int x1), (2, .int x2), (3, .int x3)]) dX9_isSeen_45 rfl (addI (by decide)) (Nat.le_of_ble_eq_true rfl) rfl ?_
  refine E_goto (tgt := 6) dX9_isSeen_48 (by decide) ?_
  refine Eg.pick [2, 3, 4, 1, 0] rfl ?_
  exact hk6 _ _ _ _ _ _ h
def bX9_isSeen_38 (k6 : Mm → Int32 → Int32 → Int32 → Int32 → Int32 → Option (Int32 × Mm)) (u : Mm) (x1 : Int32) (x2 : Int32) (x3 : Int32) (x5 : Int32) : Option (Int32 × Mm) := bX9_isSeen_43 k6 u x1 x2 x3 x5 1
set_option maxRecDepth 100000 in
set_option maxHeartbeats 4000000 in
theorem pX9_isSeen_38 {r : Int32} {u' : Mm} {k6 : Mm → Int32 → Int32 → Int32 → Int32 → Int32 → Option (Int32 × Mm)} (hk6 : ∀ (u : Mm) (x1 : Int32) (x2 : Int32) (x3 : Int32) (x4 : Int32) (x5 : Int32), k6 u x1 x2 x3 x4 x5 = some (r, u') → Eg MX9_isSeen 1 0 0 (some (.int r), u') 6 [(1, .int x1), (2, .int x2), (3, .int x3), (4, .int x4), (5, .int x5)] [] u) (u : Mm) (x1 : Int32) (x2 : Int32) (x3 : Int32) (x5 : Int32) (h : bX9_isSeen_38 k6 u x1 x2 x3 x5 = some (r, u')) : Eg MX9_isSeen 1 0 0 (some (.int r), u') 38 [(1, .int x1), (2, .int x2), (3, .int x3), (5, .int x5)] [] u := by
  unfold bX9_isSeen_38 at h
  refine E_iconst (v := 1) dX9_isSeen_38 (by decide) ?_
  refine E_goto (tgt := 43) dX9_isSeen_39 (by decide) ?_
  refine Eg.pick [0, 1, 2, 3] rfl ?_
  exact pX9_isSeen_43 hk6 _ _ _ _ _ _ h
def bX9_isSeen_42 (k6 : Mm → Int32 → Int32 → Int32 → Int32 → Int32 → Option (Int32 × Mm)) (u : Mm) (x1 : Int32) (x2 : Int32) (x3 : Int32) (x5 : Int32) : Option (Int32 × Mm) := bX9_isSeen_43 k6 u x1 x2 x3 x5 0
set_option maxRecDepth 100000 in
set_option maxHeartbeats 4000000 in
theorem pX9_isSeen_42 {r : Int32} {u' : Mm} {k6 : Mm → Int32 → Int32 → Int32 → Int32 → Int32 → Option (Int32 × Mm)} (hk6 : ∀ (u : Mm) (x1 : Int32) (x2 : Int32) (x3 : Int32) (x4 : Int32) (x5 : Int32), k6 u x1 x2 x3 x4 x5 = some (r, u') → Eg MX9_isSeen 1 0 0 (some (.int r), u') 6 [(1, .int x1), (2, .int x2), (3, .int x3), (4, .int x4), (5, .int x5)] [] u) (u : Mm) (x1 : Int32) (x2 : Int32) (x3 : Int32) (x5 : Int32) (h : bX9_isSeen_42 k6 u x1 x2 x3 x5 = some (r, u')) : Eg MX9_isSeen 1 0 0 (some (.int r), u') 42 [(1, .int x1), (2, .int x2), (3, .int x3), (5, .int x5)] [] u := by
  unfold bX9_isSeen_42 at h
  refine E_iconst (v := 0) dX9_isSeen_42 (by decide) ?_
  refine Eg.pick [0, 1, 2, 3] rfl ?_
  exact pX9_isSeen_43 hk6 _ _ _ _ _ _ h
def bX9_isSeen_6 (k6 : Mm → Int32 → Int32 → Int32 → Int32 → Int32 → Option (Int32 × Mm)) (u : Mm) (x1 : Int32) (x2 : Int32) (x3 : Int32) (x4 : Int32) (x5 : Int32) : Option (Int32 × Mm) := (if (8 : Int32) ≤ x5 then oZ x4 (some (x4, u)) else (if (x4 : Int32) = 0 then oB (fX9_is u x1 x5) (fun v1 u2 => (if (v1 : Int32) = 0 then bX9_isSeen_42 k6 u2 x1 x2 x3 x5 else oB (fX9_sizeOf u2 (x5 - x2)) (fun v3 u4 => (if (x3 : Int32) < v3 then bX9_isSeen_42 k6 u4 x1 x2 x3 x5 else bX9_isSeen_38 k6 u4 x1 x2 x3 x5)))) else bX9_isSeen_38 k6 u x1 x2 x3 x5))
set_option maxRecDepth 100000 in
set_option maxHeartbeats 4000000 in
theorem pX9_isSeen_6 {r : Int32} {u' : Mm} {k6 : Mm → Int32 → Int32 → Int32 → Int32 → Int32 → Option (Int32 × Mm)} (hk6 : ∀ (u : Mm) (x1 : Int32) (x2 : Int32) (x3 : Int32) (x4 : Int32) (x5 : Int32), k6 u x1 x2 x3 x4 x5 = some (r, u') → Eg MX9_isSeen 1 0 0 (some (.int r), u') 6 [(1, .int x1), (2, .int x2), (3, .int x3), (4, .int x4), (5, .int x5)] [] u) (u : Mm) (x1 : Int32) (x2 : Int32) (x3 : Int32) (x4 : Int32) (x5 : Int32) (h : bX9_isSeen_6 k6 u x1 x2 x3 x4 x5 = some (r, u')) : Eg MX9_isSeen 1 0 0 (some (.int r), u') 6 [(1, .int x1), (2, .int x2), (3, .int x3), (4, .int x4), (5, .int x5)] [] u := by
  unfold bX9_isSeen_6 at h
  refine E_iload dX9_isSeen_6 rfl ?_
  refine E_bipush (v := 8) dX9_isSeen_8 (by decide) ?_
  refine E_ic_ge (tgt := 51) h dX9_isSeen_10 (by decide) (fun h => ?_) (fun h => ?_)
  · refine E_iload dX9_isSeen_51 rfl ?_
    exact E_zret h dX9_isSeen_53 rfl
  · refine E_iload dX9_isSeen_13 rfl ?_
    refine E_if_ne (tgt := 38) h dX9_isSeen_15 (by decide) (fun h => ?_) (fun h => ?_)
    · refine Eg.pick [0, 1, 2, 4] rfl ?_
      exact pX9_isSeen_38 hk6 _ _ _ _ _ h
    · refine E_iload_n dX9_isSeen_18 rfl rfl ?_
      refine E_iload dX9_isSeen_19 rfl ?_
      refine F_Si h (fun a m e => tX9_is e) dX9_isSeen_21 hm_X9_is hs_X9_is ln_X9_442 rfl rfl (Nat.le_of_ble_eq_true rfl) (Nat.le_of_ble_eq_true rfl) (kc' := 0) (ks' := 0) rfl rfl (fun v1 u2 h => ?_)
      refine E_if_eq (tgt := 42) h dX9_isSeen_24 (by decide) (fun h => ?_) (fun h => ?_)
      · refine Eg.pick [0, 1, 2, 4] rfl ?_
        exact pX9_isSeen_42 hk6 _ _ _ _ _ h
      · refine E_iload dX9_isSeen_27 rfl ?_
        refine E_iload_n dX9_isSeen_29 rfl rfl ?_
        refine E_isub dX9_isSeen_30 ?_
        refine F_Si h (fun a m e => tX9_sizeOf e) dX9_isSeen_31 hm_X9_sizeOf hs_X9_sizeOf ln_X9_423 rfl rfl (Nat.le_of_ble_eq_true rfl) (Nat.le_of_ble_eq_true rfl) (kc' := 0) (ks' := 0) rfl rfl (fun v3 u4 h => ?_)
        refine E_iload_n dX9_isSeen_34 rfl rfl ?_
        refine E_ic_gt (tgt := 42) h dX9_isSeen_35 (by decide) (fun h => ?_) (fun h => ?_)
        · refine Eg.pick [0, 1, 2, 4] rfl ?_
          exact pX9_isSeen_42 hk6 _ _ _ _ _ h
        · refine Eg.pick [0, 1, 2, 4] rfl ?_
          exact pX9_isSeen_38 hk6 _ _ _ _ _ h
def rX9_isSeen_6 : Nat → Mm → Int32 → Int32 → Int32 → Int32 → Int32 → Option (Int32 × Mm)
  | 0, _, _, _, _, _, _ => none
  | n + 1, u, x1, x2, x3, x4, x5 => bX9_isSeen_6 (rX9_isSeen_6 n) u x1 x2 x3 x4 x5
theorem prX9_isSeen_6 {r : Int32} {u' : Mm} : ∀ (n : Nat) (u : Mm) (x1 : Int32) (x2 : Int32) (x3 : Int32) (x4 : Int32) (x5 : Int32), rX9_isSeen_6 n u x1 x2 x3 x4 x5 = some (r, u') → Eg MX9_isSeen 1 0 0 (some (.int r), u') 6 [(1, .int x1), (2, .int x2), (3, .int x3), (4, .int x4), (5, .int x5)] [] u
  | 0, _, _, _, _, _, _, h => by cases h
  | n + 1, u, x1, x2, x3, x4, x5, h => pX9_isSeen_6 (prX9_isSeen_6 n) u x1 x2 x3 x4 x5 h
def fX9_isSeen (u : Mm) (a0 : Nat) (x1 : Int32) (x2 : Int32) (x3 : Int32) : Option (Int32 × Mm) := rX9_isSeen_6 hwF u x1 x2 x3 0 0
set_option maxRecDepth 100000 in
set_option maxHeartbeats 4000000 in
theorem tX9_isSeen {u : Mm} {a0 : Nat} {x1 : Int32} {x2 : Int32} {x3 : Int32} {r : Int32} {u' : Mm} (h : fX9_isSeen u a0 x1 x2 x3 = some (r, u')) : Ev 1 MX9_isSeen 0 0 [.ref a0, .int x1, .int x2, .int x3] u (some (.int r), u') := by
  refine Ev.of (by decide +kernel) (Nat.le_of_ble_eq_true rfl) (show Eg MX9_isSeen 1 0 0 (some (.int r), u') 0 [(0, .ref a0), (1, .int x1), (2, .int x2), (3, .int x3)] [] u from ?_)
  unfold fX9_isSeen at h
  refine E_iconst (v := 0) dX9_isSeen_0 (by decide) ?_
  refine E_istore (l' := [(4, .int 0), (0, .ref a0), (1, .int x1), (2, .int x2), (3, .int x3)]) dX9_isSeen_1 (Nat.le_of_ble_eq_true rfl) rfl ?_
  refine E_iconst (v := 0) dX9_isSeen_3 (by decide) ?_
  refine E_istore (l' := [(5, .int 0), (4, .int 0), (0, .ref a0), (1, .int x1), (2, .int x2), (3, .int x3)]) dX9_isSeen_4 (Nat.le_of_ble_eq_true rfl) rfl ?_
  refine Eg.pick [3, 4, 5, 1, 0] rfl ?_
  exact prX9_isSeen_6 _ _ _ _ _ _ _ h
def bX9_posts_140 (u : Mm) (s0 : Int32) : Option (Int32 × Mm) := some (s0, u)
set_option maxRecDepth 100000 in
set_option maxHeartbeats 4000000 in
theorem pX9_posts_140 {r : Int32} {u' : Mm} (u : Mm) (s0 : Int32) (h : bX9_posts_140 u s0 = some (r, u')) : Eg MX9_posts 2 0 0 (some (.int r), u') 140 [] [.int s0] u := by
  unfold bX9_posts_140 at h
  exact E_iret h dX9_posts_140 rfl
def bX9_posts_123 (k39 : Mm → Nat → Int32 → Int32 → Int32 → Int32 → Int32 → Option (Int32 × Mm)) (u : Mm) (a0 : Nat) (x1 : Int32) (x2 : Int32) (x4 : Int32) (x5 : Int32) (s0 : Int32) : Option (Int32 × Mm) := k39 u a0 x1 x2 s0 x4 (x5 + 1)
set_option maxRecDepth 100000 in
set_option maxHeartbeats 4000000 in
theorem pX9_posts_123 {r : Int32} {u' : Mm} {k39 : Mm → Nat → Int32 → Int32 → Int32 → Int32 → Int32 → Option (Int32 × Mm)} (hk39 : ∀ (u : Mm) (a0 : Nat) (x1 : Int32) (x2 : Int32) (x3 : Int32) (x4 : Int32) (x5 : Int32), k39 u a0 x1 x2 x3 x4 x5 = some (r, u') → Eg MX9_posts 2 0 0 (some (.int r), u') 39 [(0, .ref a0), (1, .int x1), (2, .int x2), (3, .int x3), (4, .int x4), (5, .int x5)] [] u) (u : Mm) (a0 : Nat) (x1 : Int32) (x2 : Int32) (x4 : Int32) (x5 : Int32) (s0 : Int32) (h : bX9_posts_123 k39 u a0 x1 x2 x4 x5 s0 = some (r, u')) : Eg MX9_posts 2 0 0 (some (.int r), u') 123 [(0, .ref a0), (1, .int x1), (2, .int x2), (4, .int x4), (5, .int x5)] [.int s0] u := by
  unfold bX9_posts_123 at h
  refine E_istore_n (l' := [(3, .int s0), (0, .ref a0), (1, .int x1), (2, .int x2), (4, .int x4), (5, .int x5)]) dX9_posts_123 rfl (Nat.le_of_ble_eq_true rfl) rfl ?_
  refine E_iinc (j := 5) (v := x5 + 1) (l' := [(5, .int (x5 + 1)), (3, .int s0), (0, .ref a0), (1, .int x1), (2, .int x2), (4, .int x4)]) dX9_posts_124 rfl (addI (by decide)) (Nat.le_of_ble_eq_true rfl) rfl ?_
  refine E_goto (tgt := 39) dX9_posts_127 (by decide) ?_
  refine Eg.pick [2, 3, 4, 1, 5, 0] rfl ?_
  exact hk39 _ _ _ _ _ _ _ h
def bX9_posts_107 (k39 : Mm → Nat → Int32 → Int32 → Int32 → Int32 → Int32 → Option (Int32 × Mm)) (u : Mm) (a0 : Nat) (x1 : Int32) (x2 : Int32) (x3 : Int32) (x5 : Int32) (x6 : Int32) (s0 : Int32) : Option (Int32 × Mm) := (if (x6 : Int32) = 0 then bX9_posts_123 k39 u a0 x1 x2 s0 x5 x3 else oB (fX9_ones u x5) (fun v8 u9 => bX9_posts_123 k39 u9 a0 x1 x2 s0 x5 v8))
set_option maxRecDepth 100000 in
set_option maxHeartbeats 4000000 in
theorem pX9_posts_107 {r : Int32} {u' : Mm} {k39 : Mm → Nat → Int32 → Int32 → Int32 → Int32 → Int32 → Option (Int32 × Mm)} (hk39 : ∀ (u : Mm) (a0 : Nat) (x1 : Int32) (x2 : Int32) (x3 : Int32) (x4 : Int32) (x5 : Int32), k39 u a0 x1 x2 x3 x4 x5 = some (r, u') → Eg MX9_posts 2 0 0 (some (.int r), u') 39 [(0, .ref a0), (1, .int x1), (2, .int x2), (3, .int x3), (4, .int x4), (5, .int x5)] [] u) (u : Mm) (a0 : Nat) (x1 : Int32) (x2 : Int32) (x3 : Int32) (x5 : Int32) (x6 : Int32) (s0 : Int32) (h : bX9_posts_107 k39 u a0 x1 x2 x3 x5 x6 s0 = some (r, u')) : Eg MX9_posts 2 0 0 (some (.int r), u') 107 [(0, .ref a0), (1, .int x1), (2, .int x2), (3, .int x3), (5, .int x5), (6, .int x6)] [.int s0] u := by
  unfold bX9_posts_107 at h
  refine E_istore (l' := [(4, .int s0), (0, .ref a0), (1, .int x1), (2, .int x2), (3, .int x3), (5, .int x5), (6, .int x6)]) dX9_posts_107 (Nat.le_of_ble_eq_true rfl) rfl ?_
  refine E_iload dX9_posts_109 rfl ?_
  refine E_if_eq (tgt := 122) h dX9_posts_111 (by decide) (fun h => ?_) (fun h => ?_)
  · refine E_iload_n dX9_posts_122 rfl rfl ?_
    refine Eg.pick [1, 2, 3, 0, 5] rfl ?_
    exact pX9_posts_123 hk39 _ _ _ _ _ _ _ h
  · refine E_iload dX9_posts_114 rfl ?_
    refine F_Si h (fun a m e => tX9_ones e) dX9_posts_116 hm_X9_ones hs_X9_ones ln_X9_446 rfl rfl (Nat.le_of_ble_eq_true rfl) (Nat.le_of_ble_eq_true rfl) (kc' := 0) (ks' := 0) rfl rfl (fun v8 u9 h => ?_)
    refine E_goto (tgt := 123) dX9_posts_119 (by decide) ?_
    refine Eg.pick [1, 2, 3, 0, 5] rfl ?_
    exact pX9_posts_123 hk39 _ _ _ _ _ _ _ h
def bX9_posts_95 (k39 : Mm → Nat → Int32 → Int32 → Int32 → Int32 → Int32 → Option (Int32 × Mm)) (u : Mm) (a0 : Nat) (x1 : Int32) (x2 : Int32) (x3 : Int32) (x4 : Int32) (x5 : Int32) (x6 : Int32) : Option (Int32 × Mm) := (if (x6 : Int32) = 0 then bX9_posts_107 k39 u a0 x1 x2 x3 x5 x6 x4 else bX9_posts_107 k39 u a0 x1 x2 x3 x5 x6 x5)
set_option maxRecDepth 100000 in
set_option maxHeartbeats 4000000 in
theorem pX9_posts_95 {r : Int32} {u' : Mm} {k39 : Mm → Nat → Int32 → Int32 → Int32 → Int32 → Int32 → Option (Int32 × Mm)} (hk39 : ∀ (u : Mm) (a0 : Nat) (x1 : Int32) (x2 : Int32) (x3 : Int32) (x4 : Int32) (x5 : Int32), k39 u a0 x1 x2 x3 x4 x5 = some (r, u') → Eg MX9_posts 2 0 0 (some (.int r), u') 39 [(0, .ref a0), (1, .int x1), (2, .int x2), (3, .int x3), (4, .int x4), (5, .int x5)] [] u) (u : Mm) (a0 : Nat) (x1 : Int32) (x2 : Int32) (x3 : Int32) (x4 : Int32) (x5 : Int32) (x6 : Int32) (h : bX9_posts_95 k39 u a0 x1 x2 x3 x4 x5 x6 = some (r, u')) : Eg MX9_posts 2 0 0 (some (.int r), u') 95 [(0, .ref a0), (1, .int x1), (2, .int x2), (3, .int x3), (4, .int x4), (5, .int x5), (6, .int x6)] [] u := by
  unfold bX9_posts_95 at h
  refine E_iload dX9_posts_95 rfl ?_
  refine E_if_eq (tgt := 105) h dX9_posts_97 (by decide) (fun h => ?_) (fun h => ?_)
  · refine E_iload dX9_posts_105 rfl ?_
    refine Eg.pick [0, 1, 2, 3, 5, 6] rfl ?_
    exact pX9_posts_107 hk39 _ _ _ _ _ _ _ _ h
  · refine E_iload dX9_posts_100 rfl ?_
    refine E_goto (tgt := 107) dX9_posts_102 (by decide) ?_
    refine Eg.pick [0, 1, 2, 3, 5, 6] rfl ?_
    exact pX9_posts_107 hk39 _ _ _ _ _ _ _ _ h
def bX9_posts_66 (k39 : Mm → Nat → Int32 → Int32 → Int32 → Int32 → Int32 → Option (Int32 × Mm)) (k66 : Mm → Nat → Int32 → Int32 → Int32 → Int32 → Int32 → Int32 → Int32 → Option (Int32 × Mm)) (u : Mm) (a0 : Nat) (x1 : Int32) (x2 : Int32) (x3 : Int32) (x4 : Int32) (x5 : Int32) (x6 : Int32) (x7 : Int32) : Option (Int32 × Mm) := (if (8 : Int32) ≤ x7 then bX9_posts_95 k39 u a0 x1 x2 x3 x4 x5 x6 else (if (x6 : Int32) = 0 then bX9_posts_95 k39 u a0 x1 x2 x3 x4 x5 x6 else oR u a0 9 (oB (fX9_isSeen u a0 x5 x7 x1) (fun v10 u11 => k66 u11 a0 x1 x2 x3 x4 x5 v10 (x7 + 1)))))
set_option maxRecDepth 100000 in
set_option maxHeartbeats 4000000 in
theorem pX9_posts_66 {r : Int32} {u' : Mm} {k39 : Mm → Nat → Int32 → Int32 → Int32 → Int32 → Int32 → Option (Int32 × Mm)} (hk39 : ∀ (u : Mm) (a0 : Nat) (x1 : Int32) (x2 : Int32) (x3 : Int32) (x4 : Int32) (x5 : Int32), k39 u a0 x1 x2 x3 x4 x5 = some (r, u') → Eg MX9_posts 2 0 0 (some (.int r), u') 39 [(0, .ref a0), (1, .int x1), (2, .int x2), (3, .int x3), (4, .int x4), (5, .int x5)] [] u) {k66 : Mm → Nat → Int32 → Int32 → Int32 → Int32 → Int32 → Int32 → Int32 → Option (Int32 × Mm)} (hk66 : ∀ (u : Mm) (a0 : Nat) (x1 : Int32) (x2 : Int32) (x3 : Int32) (x4 : Int32) (x5 : Int32) (x6 : Int32) (x7 : Int32), k66 u a0 x1 x2 x3 x4 x5 x6 x7 = some (r, u') → Eg MX9_posts 2 0 0 (some (.int r), u') 66 [(0, .ref a0), (1, .int x1), (2, .int x2), (3, .int x3), (4, .int x4), (5, .int x5), (6, .int x6), (7, .int x7)] [] u) (u : Mm) (a0 : Nat) (x1 : Int32) (x2 : Int32) (x3 : Int32) (x4 : Int32) (x5 : Int32) (x6 : Int32) (x7 : Int32) (h : bX9_posts_66 k39 k66 u a0 x1 x2 x3 x4 x5 x6 x7 = some (r, u')) : Eg MX9_posts 2 0 0 (some (.int r), u') 66 [(0, .ref a0), (1, .int x1), (2, .int x2), (3, .int x3), (4, .int x4), (5, .int x5), (6, .int x6), (7, .int x7)] [] u := by
  unfold bX9_posts_66 at h
  refine E_iload dX9_posts_66 rfl ?_
  refine E_bipush (v := 8) dX9_posts_68 (by decide) ?_
  refine E_ic_ge (tgt := 95) h dX9_posts_70 (by decide) (fun h => ?_) (fun h => ?_)
  · refine Eg.pick [0, 1, 2, 3, 4, 5, 6] rfl ?_
    exact pX9_posts_95 hk39 _ _ _ _ _ _ _ _ h
  · refine E_iload dX9_posts_73 rfl ?_
    refine E_if_eq (tgt := 95) h dX9_posts_75 (by decide) (fun h => ?_) (fun h => ?_)
    · refine Eg.pick [0, 1, 2, 3, 4, 5, 6] rfl ?_
      exact pX9_posts_95 hk39 _ _ _ _ _ _ _ _ h
    · refine E_aload_n dX9_posts_78 rfl rfl ?_
      refine E_iload dX9_posts_79 rfl ?_
      refine E_iload dX9_posts_81 rfl ?_
      refine E_iload_n dX9_posts_83 rfl rfl ?_
      refine F_Vi h (fun a m e => tX9_isSeen e) dX9_posts_84 hm_X9_isSeen hv_X9_isSeen ln_X9_471 rfl rfl (Nat.le_of_ble_eq_true rfl) (Nat.le_of_ble_eq_true rfl) (kc' := 0) (ks' := 0) rfl rfl (fun v10 u11 h => ?_)
      refine E_istore (l' := [(6, .int v10), (0, .ref a0), (1, .int x1), (2, .int x2), (3, .int x3), (4, .int x4), (5, .int x5), (7, .int x7)]) dX9_posts_87 (Nat.le_of_ble_eq_true rfl) rfl ?_
      refine E_iinc (j := 7) (v := x7 + 1) (l' := [(7, .int (x7 + 1)), (6, .int v10), (0, .ref a0), (1, .int x1), (2, .int x2), (3, .int x3), (4, .int x4), (5, .int x5)]) dX9_posts_89 rfl (addI (by decide)) (Nat.le_of_ble_eq_true rfl) rfl ?_
      refine E_goto (tgt := 66) dX9_posts_92 (by decide) ?_
      refine Eg.pick [2, 3, 4, 5, 6, 7, 1, 0] rfl ?_
      exact hk66 _ _ _ _ _ _ _ _ _ h
def rX9_posts_66 (k39 : Mm → Nat → Int32 → Int32 → Int32 → Int32 → Int32 → Option (Int32 × Mm)) : Nat → Mm → Nat → Int32 → Int32 → Int32 → Int32 → Int32 → Int32 → Int32 → Option (Int32 × Mm)
  | 0, _, _, _, _, _, _, _, _, _ => none
  | n + 1, u, a0, x1, x2, x3, x4, x5, x6, x7 => bX9_posts_66 k39 (rX9_posts_66 k39 n) u a0 x1 x2 x3 x4 x5 x6 x7
theorem prX9_posts_66 {r : Int32} {u' : Mm} {k39 : Mm → Nat → Int32 → Int32 → Int32 → Int32 → Int32 → Option (Int32 × Mm)} (hk39 : ∀ (u : Mm) (a0 : Nat) (x1 : Int32) (x2 : Int32) (x3 : Int32) (x4 : Int32) (x5 : Int32), k39 u a0 x1 x2 x3 x4 x5 = some (r, u') → Eg MX9_posts 2 0 0 (some (.int r), u') 39 [(0, .ref a0), (1, .int x1), (2, .int x2), (3, .int x3), (4, .int x4), (5, .int x5)] [] u) : ∀ (n : Nat) (u : Mm) (a0 : Nat) (x1 : Int32) (x2 : Int32) (x3 : Int32) (x4 : Int32) (x5 : Int32) (x6 : Int32) (x7 : Int32), rX9_posts_66 k39 n u a0 x1 x2 x3 x4 x5 x6 x7 = some (r, u') → Eg MX9_posts 2 0 0 (some (.int r), u') 66 [(0, .ref a0), (1, .int x1), (2, .int x2), (3, .int x3), (4, .int x4), (5, .int x5), (6, .int x6), (7, .int x7)] [] u
  | 0, _, _, _, _, _, _, _, _, _, h => by cases h
  | n + 1, u, a0, x1, x2, x3, x4, x5, x6, x7, h => pX9_posts_66 hk39 (prX9_posts_66 hk39 n) u a0 x1 x2 x3 x4 x5 x6 x7 h
def bX9_posts_61 (k39 : Mm → Nat → Int32 → Int32 → Int32 → Int32 → Int32 → Option (Int32 × Mm)) (u : Mm) (a0 : Nat) (x1 : Int32) (x2 : Int32) (x3 : Int32) (x4 : Int32) (x5 : Int32) (s0 : Int32) : Option (Int32 × Mm) := rX9_posts_66 k39 hwF u a0 x1 x2 x3 x4 x5 s0 0
set_option maxRecDepth 100000 in
set_option maxHeartbeats 4000000 in
theorem pX9_posts_61 {r : Int32} {u' : Mm} {k39 : Mm → Nat → Int32 → Int32 → Int32 → Int32 → Int32 → Option (Int32 × Mm)} (hk39 : ∀ (u : Mm) (a0 : Nat) (x1 : Int32) (x2 : Int32) (x3 : Int32) (x4 : Int32) (x5 : Int32), k39 u a0 x1 x2 x3 x4 x5 = some (r, u') → Eg MX9_posts 2 0 0 (some (.int r), u') 39 [(0, .ref a0), (1, .int x1), (2, .int x2), (3, .int x3), (4, .int x4), (5, .int x5)] [] u) (u : Mm) (a0 : Nat) (x1 : Int32) (x2 : Int32) (x3 : Int32) (x4 : Int32) (x5 : Int32) (s0 : Int32) (h : bX9_posts_61 k39 u a0 x1 x2 x3 x4 x5 s0 = some (r, u')) : Eg MX9_posts 2 0 0 (some (.int r), u') 61 [(0, .ref a0), (1, .int x1), (2, .int x2), (3, .int x3), (4, .int x4), (5, .int x5)] [.int s0] u := by
  unfold bX9_posts_61 at h
  refine E_istore (l' := [(6, .int s0), (0, .ref a0), (1, .int x1), (2, .int x2), (3, .int x3), (4, .int x4), (5, .int x5)]) dX9_posts_61 (Nat.le_of_ble_eq_true rfl) rfl ?_
  refine E_iconst (v := 0) dX9_posts_63 (by decide) ?_
  refine E_istore (l' := [(7, .int 0), (6, .int s0), (0, .ref a0), (1, .int x1), (2, .int x2), (3, .int x3), (4, .int x4), (5, .int x5)]) dX9_posts_64 (Nat.le_of_ble_eq_true rfl) rfl ?_
  refine Eg.pick [2, 3, 4, 5, 6, 7, 1, 0] rfl ?_
  exact prX9_posts_66 hk39 _ _ _ _ _ _ _ _ _ _ h
def bX9_posts_39 (k39 : Mm → Nat → Int32 → Int32 → Int32 → Int32 → Int32 → Option (Int32 × Mm)) (u : Mm) (a0 : Nat) (x1 : Int32) (x2 : Int32) (x3 : Int32) (x4 : Int32) (x5 : Int32) : Option (Int32 × Mm) := (if (256 : Int32) ≤ x5 then (if (x2 : Int32) = 0 then bX9_posts_140 u x3 else bX9_posts_140 u x4) else oB (fX9_ones u x5) (fun v6 u7 => (if (x3 : Int32) ≤ v6 then bX9_posts_61 k39 u7 a0 x1 x2 x3 x4 x5 0 else bX9_posts_61 k39 u7 a0 x1 x2 x3 x4 x5 1)))
set_option maxRecDepth 100000 in
set_option maxHeartbeats 4000000 in
theorem pX9_posts_39 {r : Int32} {u' : Mm} {k39 : Mm → Nat → Int32 → Int32 → Int32 → Int32 → Int32 → Option (Int32 × Mm)} (hk39 : ∀ (u : Mm) (a0 : Nat) (x1 : Int32) (x2 : Int32) (x3 : Int32) (x4 : Int32) (x5 : Int32), k39 u a0 x1 x2 x3 x4 x5 = some (r, u') → Eg MX9_posts 2 0 0 (some (.int r), u') 39 [(0, .ref a0), (1, .int x1), (2, .int x2), (3, .int x3), (4, .int x4), (5, .int x5)] [] u) (u : Mm) (a0 : Nat) (x1 : Int32) (x2 : Int32) (x3 : Int32) (x4 : Int32) (x5 : Int32) (h : bX9_posts_39 k39 u a0 x1 x2 x3 x4 x5 = some (r, u')) : Eg MX9_posts 2 0 0 (some (.int r), u') 39 [(0, .ref a0), (1, .int x1), (2, .int x2), (3, .int x3), (4, .int x4), (5, .int x5)] [] u := by
  unfold bX9_posts_39 at h
  refine E_iload dX9_posts_39 rfl ?_
  refine E_sipush (v := 256) dX9_posts_41 (by decide) ?_
  refine E_ic_ge (tgt := 130) h dX9_posts_44 (by decide) (fun h => ?_) (fun h => ?_)
  · refine E_iload_n dX9_posts_130 rfl rfl ?_
    refine E_if_ne (tgt := 138) h dX9_posts_131 (by decide) (fun h => ?_) (fun h => ?_)
    · refine E_iload dX9_posts_138 rfl ?_
      refine Eg.pick [] rfl ?_
      exact pX9_posts_140 _ _ h
    · refine E_iload_n dX9_posts_134 rfl rfl ?_
      refine E_goto (tgt := 140) dX9_posts_135 (by decide) ?_
      refine Eg.pick [] rfl ?_
      exact pX9_posts_140 _ _ h
  · refine E_iload dX9_posts_47 rfl ?_
    refine F_Si h (fun a m e => tX9_ones e) dX9_posts_49 hm_X9_ones hs_X9_ones ln_X9_446 rfl rfl (Nat.le_of_ble_eq_true rfl) (Nat.le_of_ble_eq_true rfl) (kc' := 0) (ks' := 0) rfl rfl (fun v6 u7 h => ?_)
    refine E_iload_n dX9_posts_52 rfl rfl ?_
    refine E_ic_ge (tgt := 60) h dX9_posts_53 (by decide) (fun h => ?_) (fun h => ?_)
    · refine E_iconst (v := 0) dX9_posts_60 (by decide) ?_
      refine Eg.pick [0, 1, 2, 3, 4, 5] rfl ?_
      exact pX9_posts_61 hk39 _ _ _ _ _ _ _ _ h
    · refine E_iconst (v := 1) dX9_posts_56 (by decide) ?_
      refine E_goto (tgt := 61) dX9_posts_57 (by decide) ?_
      refine Eg.pick [0, 1, 2, 3, 4, 5] rfl ?_
      exact pX9_posts_61 hk39 _ _ _ _ _ _ _ _ h
def rX9_posts_39 : Nat → Mm → Nat → Int32 → Int32 → Int32 → Int32 → Int32 → Option (Int32 × Mm)
  | 0, _, _, _, _, _, _, _ => none
  | n + 1, u, a0, x1, x2, x3, x4, x5 => bX9_posts_39 (rX9_posts_39 n) u a0 x1 x2 x3 x4 x5
theorem prX9_posts_39 {r : Int32} {u' : Mm} : ∀ (n : Nat) (u : Mm) (a0 : Nat) (x1 : Int32) (x2 : Int32) (x3 : Int32) (x4 : Int32) (x5 : Int32), rX9_posts_39 n u a0 x1 x2 x3 x4 x5 = some (r, u') → Eg MX9_posts 2 0 0 (some (.int r), u') 39 [(0, .ref a0), (1, .int x1), (2, .int x2), (3, .int x3), (4, .int x4), (5, .int x5)] [] u
  | 0, _, _, _, _, _, _, _, h => by cases h
  | n + 1, u, a0, x1, x2, x3, x4, x5, h => pX9_posts_39 (prX9_posts_39 n) u a0 x1 x2 x3 x4 x5 h
def fX9_posts (u : Mm) (a0 : Nat) (x1 : Int32) (x2 : Int32) : Option (Int32 × Mm) := oK u a0 9 54 (oU (wI u a0 (upd (mI u a0) 0 0)) (fun u1 => oB (fX9_in u1 (Int32.toInt64 x1) 0 7) (fun v2 u3 => (if (v2 : Int32) = 0 then some ((-1), u3) else oB (fX9_in u3 (Int32.toInt64 x2) 0 1) (fun v4 u5 => (if (v4 : Int32) = 0 then some ((-1), u5) else rX9_posts_39 hwF u5 a0 x1 x2 100000000 ((-1)) 0))))))
set_option maxRecDepth 100000 in
set_option maxHeartbeats 4000000 in
theorem tX9_posts {u : Mm} {a0 : Nat} {x1 : Int32} {x2 : Int32} {r : Int32} {u' : Mm} (h : fX9_posts u a0 x1 x2 = some (r, u')) : Ev 2 MX9_posts 0 0 [.ref a0, .int x1, .int x2] u (some (.int r), u') := by
  refine Ev.of (by decide +kernel) (Nat.le_of_ble_eq_true rfl) (show Eg MX9_posts 2 0 0 (some (.int r), u') 0 [(0, .ref a0), (1, .int x1), (2, .int x2)] [] u from ?_)
  unfold fX9_posts at h
  refine E_aload_n dX9_posts_0 rfl rfl ?_
  refine E_iconst (v := 0) dX9_posts_1 (by decide) ?_
  refine E_putI h dX9_posts_2 cf9 lk_X9_134 (by decide) (Or.inl rfl) rfl (fun h => ?_)
  refine E_oU h (fun u1 h => ?_)
  refine E_iload_n dX9_posts_5 rfl rfl ?_
  refine E_i2l dX9_posts_6 ?_
  refine E_lconst (v := 0) dX9_posts_7 (by decide) ?_
  refine E_ldc2 dX9_posts_8 rfl cn_X9_161 ?_
  refine F_Si h (fun a m e => tX9_in e) dX9_posts_11 hm_X9_in hs_X9_in ln_X9_154 rfl rfl (Nat.le_of_ble_eq_true rfl) (Nat.le_of_ble_eq_true rfl) (kc' := 0) (ks' := 0) rfl rfl (fun v2 u3 h => ?_)
  refine E_if_eq (tgt := 27) h dX9_posts_14 (by decide) (fun h => ?_) (fun h => ?_)
  · refine E_iconst (v := (-1)) dX9_posts_27 (by decide) ?_
    exact E_iret h dX9_posts_28 rfl
  · refine E_iload_n dX9_posts_17 rfl rfl ?_
    refine E_i2l dX9_posts_18 ?_
    refine E_lconst (v := 0) dX9_posts_19 (by decide) ?_
    refine E_lconst (v := 1) dX9_posts_20 (by decide) ?_
    refine F_Si h (fun a m e => tX9_in e) dX9_posts_21 hm_X9_in hs_X9_in ln_X9_154 rfl rfl (Nat.le_of_ble_eq_true rfl) (Nat.le_of_ble_eq_true rfl) (kc' := 0) (ks' := 0) rfl rfl (fun v4 u5 h => ?_)
    refine E_if_ne (tgt := 29) h dX9_posts_24 (by decide) (fun h => ?_) (fun h => ?_)
    · refine E_ldcw dX9_posts_29 rfl cn_X9_445 ?_
      refine E_istore_n (l' := [(3, .int 100000000), (0, .ref a0), (1, .int x1), (2, .int x2)]) dX9_posts_32 rfl (Nat.le_of_ble_eq_true rfl) rfl ?_
      refine E_iconst (v := (-1)) dX9_posts_33 (by decide) ?_
      refine E_istore (l' := [(4, .int ((-1))), (3, .int 100000000), (0, .ref a0), (1, .int x1), (2, .int x2)]) dX9_posts_34 (Nat.le_of_ble_eq_true rfl) rfl ?_
      refine E_iconst (v := 0) dX9_posts_36 (by decide) ?_
      refine E_istore (l' := [(5, .int 0), (4, .int ((-1))), (3, .int 100000000), (0, .ref a0), (1, .int x1), (2, .int x2)]) dX9_posts_37 (Nat.le_of_ble_eq_true rfl) rfl ?_
      refine Eg.pick [3, 4, 5, 2, 1, 0] rfl ?_
      exact prX9_posts_39 _ _ _ _ _ _ _ _ h
    · refine E_iconst (v := (-1)) dX9_posts_27 (by decide) ?_
      exact E_iret h dX9_posts_28 rfl
def bX9_foesBy_13 (k13 : Mm → Nat → Int32 → Int32 → Int32 → Int32 → Option (Int32 × Mm)) (u : Mm) (a0 : Nat) (x1 : Int32) (x3 : Int32) (x4 : Int32) (x5 : Int32) : Option (Int32 × Mm) := (if (x5 : Int32) = x3 then oK u a0 9 54 (oI (mI u a0 43) (fun v3 => some (v3, u))) else (if (8 : Int32) ≠ 0 then oI (((x5 + x4) + 8) - ((x5 + x4) + 8) / 8 * 8) (fun v4 => oK u a0 9 54 (oI (mI u a0 43) (fun v5 => oR u a0 9 (oB (fX9_menOf u a0 ((1 : Int32) - x1) v4) (fun v6 u7 => oK u7 a0 9 54 (oU (wI u7 a0 (upd (mI u7 a0) 43 (v5 + v6))) (fun u8 => oK u8 a0 9 54 (oI (mI u8 a0 44) (fun v9 => oK u8 a0 9 54 (oU (wI u8 a0 (upd (mI u8 a0) 44 (v9 + 1))) (fun u10 => k13 u10 a0 x1 x3 x4 v4))))))))))) else none))
set_option maxRecDepth 100000 in
set_option maxHeartbeats 4000000 in
theorem pX9_foesBy_13 {r : Int32} {u' : Mm} {k13 : Mm → Nat → Int32 → Int32 → Int32 → Int32 → Option (Int32 × Mm)} (hk13 : ∀ (u : Mm) (a0 : Nat) (x1 : Int32) (x3 : Int32) (x4 : Int32) (x5 : Int32), k13 u a0 x1 x3 x4 x5 = some (r, u') → Eg MX9_foesBy 1 0 0 (some (.int r), u') 13 [(0, .ref a0), (1, .int x1), (3, .int x3), (4, .int x4), (5, .int x5)] [] u) (u : Mm) (a0 : Nat) (x1 : Int32) (x3 : Int32) (x4 : Int32) (x5 : Int32) (h : bX9_foesBy_13 k13 u a0 x1 x3 x4 x5 = some (r, u')) : Eg MX9_foesBy 1 0 0 (some (.int r), u') 13 [(0, .ref a0), (1, .int x1), (3, .int x3), (4, .int x4), (5, .int x5)] [] u := by
  unfold bX9_foesBy_13 at h
  refine E_iload dX9_foesBy_13 rfl ?_
  refine E_iload_n dX9_foesBy_15 rfl rfl ?_
  refine E_ic_eq (tgt := 63) h dX9_foesBy_16 (by decide) (fun h => ?_) (fun h => ?_)
  · refine E_aload_n dX9_foesBy_63 rfl rfl ?_
    refine E_getI h dX9_foesBy_64 cf9 lk_X9_475 (by decide) (fun _ _ _ => rfl) (fun h => ?_)
    refine E_oI h (fun v3 h => ?_)
    exact E_iret h dX9_foesBy_67 rfl
  · refine E_iload dX9_foesBy_19 rfl ?_
    refine E_iload dX9_foesBy_21 rfl ?_
    refine E_iadd dX9_foesBy_23 ?_
    refine E_bipush (v := 8) dX9_foesBy_24 (by decide) ?_
    refine E_iadd dX9_foesBy_26 ?_
    refine E_bipush (v := 8) dX9_foesBy_27 (by decide) ?_
    refine E_irem h dX9_foesBy_29 (fun h => ?_)
    refine E_oI h (fun v4 h => ?_)
    refine E_istore (l' := [(5, .int v4), (0, .ref a0), (1, .int x1), (3, .int x3), (4, .int x4)]) dX9_foesBy_30 (Nat.le_of_ble_eq_true rfl) rfl ?_
    refine E_aload_n dX9_foesBy_32 rfl rfl ?_
    refine E_dup dX9_foesBy_33 rfl ?_
    refine E_getI h dX9_foesBy_34 cf9 lk_X9_475 (by decide) (fun _ _ _ => rfl) (fun h => ?_)
    refine E_oI h (fun v5 h => ?_)
    refine E_aload_n dX9_foesBy_37 rfl rfl ?_
    refine E_iconst (v := 1) dX9_foesBy_38 (by decide) ?_
    refine E_iload_n dX9_foesBy_39 rfl rfl ?_
    refine E_isub dX9_foesBy_40 ?_
    refine E_iload dX9_foesBy_41 rfl ?_
    refine F_Vi h (fun a m e => tX9_menOf e) dX9_foesBy_43 hm_X9_menOf hv_X9_menOf ln_X9_163 rfl rfl (Nat.le_of_ble_eq_true rfl) (Nat.le_of_ble_eq_true rfl) (kc' := 0) (ks' := 0) rfl rfl (fun v6 u7 h => ?_)
    refine E_iadd dX9_foesBy_46 ?_
    refine E_putI h dX9_foesBy_47 cf9 lk_X9_475 (by decide) (Or.inl rfl) rfl (fun h => ?_)
    refine E_oU h (fun u8 h => ?_)
    refine E_aload_n dX9_foesBy_50 rfl rfl ?_
    refine E_dup dX9_foesBy_51 rfl ?_
    refine E_getI h dX9_foesBy_52 cf9 lk_X9_478 (by decide) (fun _ _ _ => rfl) (fun h => ?_)
    refine E_oI h (fun v9 h => ?_)
    refine E_iconst (v := 1) dX9_foesBy_55 (by decide) ?_
    refine E_iadd dX9_foesBy_56 ?_
    refine E_putI h dX9_foesBy_57 cf9 lk_X9_478 (by decide) (Or.inl rfl) rfl (fun h => ?_)
    refine E_oU h (fun u10 h => ?_)
    refine E_goto (tgt := 13) dX9_foesBy_60 (by decide) ?_
    refine Eg.pick [1, 2, 3, 4, 0] rfl ?_
    exact hk13 _ _ _ _ _ _ h
def rX9_foesBy_13 : Nat → Mm → Nat → Int32 → Int32 → Int32 → Int32 → Option (Int32 × Mm)
  | 0, _, _, _, _, _, _ => none
  | n + 1, u, a0, x1, x3, x4, x5 => bX9_foesBy_13 (rX9_foesBy_13 n) u a0 x1 x3 x4 x5
theorem prX9_foesBy_13 {r : Int32} {u' : Mm} : ∀ (n : Nat) (u : Mm) (a0 : Nat) (x1 : Int32) (x3 : Int32) (x4 : Int32) (x5 : Int32), rX9_foesBy_13 n u a0 x1 x3 x4 x5 = some (r, u') → Eg MX9_foesBy 1 0 0 (some (.int r), u') 13 [(0, .ref a0), (1, .int x1), (3, .int x3), (4, .int x4), (5, .int x5)] [] u
  | 0, _, _, _, _, _, _, h => by cases h
  | n + 1, u, a0, x1, x3, x4, x5, h => pX9_foesBy_13 (prX9_foesBy_13 n) u a0 x1 x3 x4 x5 h
def fX9_foesBy (u : Mm) (a0 : Nat) (x1 : Int32) (x2 : Int32) (x3 : Int32) (x4 : Int32) : Option (Int32 × Mm) := oK u a0 9 54 (oU (wI u a0 (upd (mI u a0) 43 0)) (fun u1 => oK u1 a0 9 54 (oU (wI u1 a0 (upd (mI u1 a0) 44 0)) (fun u2 => rX9_foesBy_13 hwF u2 a0 x1 x3 x4 x2))))
set_option maxRecDepth 100000 in
set_option maxHeartbeats 4000000 in
theorem tX9_foesBy {u : Mm} {a0 : Nat} {x1 : Int32} {x2 : Int32} {x3 : Int32} {x4 : Int32} {r : Int32} {u' : Mm} (h : fX9_foesBy u a0 x1 x2 x3 x4 = some (r, u')) : Ev 1 MX9_foesBy 0 0 [.ref a0, .int x1, .int x2, .int x3, .int x4] u (some (.int r), u') := by
  refine Ev.of (by decide +kernel) (Nat.le_of_ble_eq_true rfl) (show Eg MX9_foesBy 1 0 0 (some (.int r), u') 0 [(0, .ref a0), (1, .int x1), (2, .int x2), (3, .int x3), (4, .int x4)] [] u from ?_)
  unfold fX9_foesBy at h
  refine E_aload_n dX9_foesBy_0 rfl rfl ?_
  refine E_iconst (v := 0) dX9_foesBy_1 (by decide) ?_
  refine E_putI h dX9_foesBy_2 cf9 lk_X9_475 (by decide) (Or.inl rfl) rfl (fun h => ?_)
  refine E_oU h (fun u1 h => ?_)
  refine E_aload_n dX9_foesBy_5 rfl rfl ?_
  refine E_iconst (v := 0) dX9_foesBy_6 (by decide) ?_
  refine E_putI h dX9_foesBy_7 cf9 lk_X9_478 (by decide) (Or.inl rfl) rfl (fun h => ?_)
  refine E_oU h (fun u2 h => ?_)
  refine E_iload_n dX9_foesBy_10 rfl rfl ?_
  refine E_istore (l' := [(5, .int x2), (0, .ref a0), (1, .int x1), (2, .int x2), (3, .int x3), (4, .int x4)]) dX9_foesBy_11 (Nat.le_of_ble_eq_true rfl) rfl ?_
  refine Eg.pick [1, 2, 4, 5, 0] rfl ?_
  exact prX9_foesBy_13 _ _ _ _ _ _ _ h
def bX9_way_125 (u : Mm) (s0 : Int32) : Option (Int32 × Mm) := some (s0, u)
set_option maxRecDepth 100000 in
set_option maxHeartbeats 4000000 in
theorem pX9_way_125 {r : Int32} {u' : Mm} (u : Mm) (s0 : Int32) (h : bX9_way_125 u s0 = some (r, u')) : Eg MX9_way 2 0 0 (some (.int r), u') 125 [] [.int s0] u := by
  unfold bX9_way_125 at h
  exact E_iret h dX9_way_125 rfl
def bX9_way_86 (u : Mm) (a0 : Nat) (x4 : Int32) (x5 : Int32) (s0 : Int32) (s1 : Int32) (s2 : Int32) (s3 : Int32) (s4 : Nat) : Option (Int32 × Mm) := oR u s4 9 (oB (fX9_foesBy u s4 s3 s2 s1 s0) (fun v14 u15 => (if (x4 : Int32) = 0 then oK u15 a0 9 54 (oI (mI u15 a0 43) (fun v17 => bX9_way_125 u15 v17)) else (if (x4 : Int32) = 1 then (if (x5 : Int32) = 0 then bX9_way_125 u15 0 else bX9_way_125 u15 1) else oK u15 a0 9 54 (oI (mI u15 a0 44) (fun v16 => bX9_way_125 u15 v16))))))
set_option maxRecDepth 100000 in
set_option maxHeartbeats 4000000 in
theorem pX9_way_86 {r : Int32} {u' : Mm} (u : Mm) (a0 : Nat) (x4 : Int32) (x5 : Int32) (s0 : Int32) (s1 : Int32) (s2 : Int32) (s3 : Int32) (s4 : Nat) (h : bX9_way_86 u a0 x4 x5 s0 s1 s2 s3 s4 = some (r, u')) : Eg MX9_way 2 0 0 (some (.int r), u') 86 [(0, .ref a0), (4, .int x4), (5, .int x5)] [.int s0, .int s1, .int s2, .int s3, .ref s4] u := by
  unfold bX9_way_86 at h
  refine F_Vi h (fun a m e => tX9_foesBy e) dX9_way_86 hm_X9_foesBy hv_X9_foesBy ln_X9_481 rfl rfl (Nat.le_of_ble_eq_true rfl) (Nat.le_of_ble_eq_true rfl) (kc' := 0) (ks' := 0) rfl rfl (fun v14 u15 h => ?_)
  refine E_pop dX9_way_89 rfl ?_
  refine E_iload dX9_way_90 rfl ?_
  refine E_if_ne (tgt := 102) h dX9_way_92 (by decide) (fun h => ?_) (fun h => ?_)
  · refine E_iload dX9_way_102 rfl ?_
    refine E_iconst (v := 1) dX9_way_104 (by decide) ?_
    refine E_ic_ne (tgt := 121) h dX9_way_105 (by decide) (fun h => ?_) (fun h => ?_)
    · refine E_aload_n dX9_way_121 rfl rfl ?_
      refine E_getI h dX9_way_122 cf9 lk_X9_478 (by decide) (fun _ _ _ => rfl) (fun h => ?_)
      refine E_oI h (fun v16 h => ?_)
      refine Eg.pick [] rfl ?_
      exact pX9_way_125 _ _ h
    · refine E_iload dX9_way_108 rfl ?_
      refine E_if_eq (tgt := 117) h dX9_way_110 (by decide) (fun h => ?_) (fun h => ?_)
      · refine E_iconst (v := 0) dX9_way_117 (by decide) ?_
        refine E_goto (tgt := 125) dX9_way_118 (by decide) ?_
        refine Eg.pick [] rfl ?_
        exact pX9_way_125 _ _ h
      · refine E_iconst (v := 1) dX9_way_113 (by decide) ?_
        refine E_goto (tgt := 125) dX9_way_114 (by decide) ?_
        refine Eg.pick [] rfl ?_
        exact pX9_way_125 _ _ h
  · refine E_aload_n dX9_way_95 rfl rfl ?_
    refine E_getI h dX9_way_96 cf9 lk_X9_475 (by decide) (fun _ _ _ => rfl) (fun h => ?_)
    refine E_oI h (fun v17 h => ?_)
    refine E_goto (tgt := 125) dX9_way_99 (by decide) ?_
    refine Eg.pick [] rfl ?_
    exact pX9_way_125 _ _ h
def bX9_way_70 (u : Mm) (a0 : Nat) (x1 : Int32) (x2 : Int32) (x3 : Int32) (x4 : Int32) (s0 : Int32) : Option (Int32 × Mm) := (if (s0 : Int32) = 0 then bX9_way_86 u a0 x4 s0 ((-1)) x3 x2 x1 a0 else bX9_way_86 u a0 x4 s0 1 x3 x2 x1 a0)
set_option maxRecDepth 100000 in
set_option maxHeartbeats 4000000 in
theorem pX9_way_70 {r : Int32} {u' : Mm} (u : Mm) (a0 : Nat) (x1 : Int32) (x2 : Int32) (x3 : Int32) (x4 : Int32) (s0 : Int32) (h : bX9_way_70 u a0 x1 x2 x3 x4 s0 = some (r, u')) : Eg MX9_way 2 0 0 (some (.int r), u') 70 [(0, .ref a0), (1, .int x1), (2, .int x2), (3, .int x3), (4, .int x4)] [.int s0] u := by
  unfold bX9_way_70 at h
  refine E_istore (l' := [(5, .int s0), (0, .ref a0), (1, .int x1), (2, .int x2), (3, .int x3), (4, .int x4)]) dX9_way_70 (Nat.le_of_ble_eq_true rfl) rfl ?_
  refine E_aload_n dX9_way_72 rfl rfl ?_
  refine E_iload_n dX9_way_73 rfl rfl ?_
  refine E_iload_n dX9_way_74 rfl rfl ?_
  refine E_iload_n dX9_way_75 rfl rfl ?_
  refine E_iload dX9_way_76 rfl ?_
  refine E_if_eq (tgt := 85) h dX9_way_78 (by decide) (fun h => ?_) (fun h => ?_)
  · refine E_iconst (v := (-1)) dX9_way_85 (by decide) ?_
    refine Eg.pick [1, 5, 0] rfl ?_
    exact pX9_way_86 _ _ _ _ _ _ _ _ _ h
  · refine E_iconst (v := 1) dX9_way_81 (by decide) ?_
    refine E_goto (tgt := 86) dX9_way_82 (by decide) ?_
    refine Eg.pick [1, 5, 0] rfl ?_
    exact pX9_way_86 _ _ _ _ _ _ _ _ _ h
def fX9_way (u : Mm) (a0 : Nat) (x1 : Int32) (x2 : Int32) (x3 : Int32) (x4 : Int32) : Option (Int32 × Mm) := oK u a0 9 54 (oU (wI u a0 (upd (mI u a0) 0 0)) (fun u1 => oB (fX9_isSide u1 x1) (fun v2 u3 => (if (v2 : Int32) = 0 then some ((-1), u3) else oB (fX9_isEight u3 x2) (fun v4 u5 => (if (v4 : Int32) = 0 then some ((-1), u5) else oB (fX9_isEight u5 x3) (fun v6 u7 => (if (v6 : Int32) = 0 then some ((-1), u7) else (if (x2 : Int32) = x3 then some ((-1), u7) else oB (fX9_in u7 (Int32.toInt64 x4) 0 2) (fun v8 u9 => (if (v8 : Int32) = 0 then some ((-1), u9) else oR u9 a0 9 (oB (fX9_foesBy u9 a0 x1 x2 x3 1) (fun v10 u11 => oR u11 a0 9 (oB (fX9_foesBy u11 a0 x1 x2 x3 ((-1))) (fun v12 u13 => (if (v12 : Int32) < v10 then bX9_way_70 u13 a0 x1 x2 x3 x4 0 else bX9_way_70 u13 a0 x1 x2 x3 x4 1))))))))))))))))
set_option maxRecDepth 100000 in
set_option maxHeartbeats 4000000 in
theorem tX9_way {u : Mm} {a0 : Nat} {x1 : Int32} {x2 : Int32} {x3 : Int32} {x4 : Int32} {r : Int32} {u' : Mm} (h : fX9_way u a0 x1 x2 x3 x4 = some (r, u')) : Ev 2 MX9_way 0 0 [.ref a0, .int x1, .int x2, .int x3, .int x4] u (some (.int r), u') := by
  refine Ev.of (by decide +kernel) (Nat.le_of_ble_eq_true rfl) (show Eg MX9_way 2 0 0 (some (.int r), u') 0 [(0, .ref a0), (1, .int x1), (2, .int x2), (3, .int x3), (4, .int x4)] [] u from ?_)
  unfold fX9_way at h
  refine E_aload_n dX9_way_0 rfl rfl ?_
  refine E_iconst (v := 0) dX9_way_1 (by decide) ?_
  refine E_putI h dX9_way_2 cf9 lk_X9_134 (by decide) (Or.inl rfl) rfl (fun h => ?_)
  refine E_oU h (fun u1 h => ?_)
  refine E_iload_n dX9_way_5 rfl rfl ?_
  refine F_Si h (fun a m e => tX9_isSide e) dX9_way_6 hm_X9_isSide hs_X9_isSide ln_X9_167 rfl rfl (Nat.le_of_ble_eq_true rfl) (Nat.le_of_ble_eq_true rfl) (kc' := 0) (ks' := 0) rfl rfl (fun v2 u3 h => ?_)
  refine E_if_eq (tgt := 44) h dX9_way_9 (by decide) (fun h => ?_) (fun h => ?_)
  · refine E_iconst (v := (-1)) dX9_way_44 (by decide) ?_
    exact E_iret h dX9_way_45 rfl
  · refine E_iload_n dX9_way_12 rfl rfl ?_
    refine F_Si h (fun a m e => tX9_isEight e) dX9_way_13 hm_X9_isEight hs_X9_isEight ln_X9_171 rfl rfl (Nat.le_of_ble_eq_true rfl) (Nat.le_of_ble_eq_true rfl) (kc' := 0) (ks' := 0) rfl rfl (fun v4 u5 h => ?_)
    refine E_if_eq (tgt := 44) h dX9_way_16 (by decide) (fun h => ?_) (fun h => ?_)
    · refine E_iconst (v := (-1)) dX9_way_44 (by decide) ?_
      exact E_iret h dX9_way_45 rfl
    · refine E_iload_n dX9_way_19 rfl rfl ?_
      refine F_Si h (fun a m e => tX9_isEight e) dX9_way_20 hm_X9_isEight hs_X9_isEight ln_X9_171 rfl rfl (Nat.le_of_ble_eq_true rfl) (Nat.le_of_ble_eq_true rfl) (kc' := 0) (ks' := 0) rfl rfl (fun v6 u7 h => ?_)
      refine E_if_eq (tgt := 44) h dX9_way_23 (by decide) (fun h => ?_) (fun h => ?_)
      · refine E_iconst (v := (-1)) dX9_way_44 (by decide) ?_
        exact E_iret h dX9_way_45 rfl
      · refine E_iload_n dX9_way_26 rfl rfl ?_
        refine E_iload_n dX9_way_27 rfl rfl ?_
        refine E_ic_eq (tgt := 44) h dX9_way_28 (by decide) (fun h => ?_) (fun h => ?_)
        · refine E_iconst (v := (-1)) dX9_way_44 (by decide) ?_
          exact E_iret h dX9_way_45 rfl
        · refine E_iload dX9_way_31 rfl ?_
          refine E_i2l dX9_way_33 ?_
          refine E_lconst (v := 0) dX9_way_34 (by decide) ?_
          refine E_ldc2 dX9_way_35 rfl cn_X9_466 ?_
          refine F_Si h (fun a m e => tX9_in e) dX9_way_38 hm_X9_in hs_X9_in ln_X9_154 rfl rfl (Nat.le_of_ble_eq_true rfl) (Nat.le_of_ble_eq_true rfl) (kc' := 0) (ks' := 0) rfl rfl (fun v8 u9 h => ?_)
          refine E_if_ne (tgt := 46) h dX9_way_41 (by decide) (fun h => ?_) (fun h => ?_)
          · refine E_aload_n dX9_way_46 rfl rfl ?_
            refine E_iload_n dX9_way_47 rfl rfl ?_
            refine E_iload_n dX9_way_48 rfl rfl ?_
            refine E_iload_n dX9_way_49 rfl rfl ?_
            refine E_iconst (v := 1) dX9_way_50 (by decide) ?_
            refine F_Vi h (fun a m e => tX9_foesBy e) dX9_way_51 hm_X9_foesBy hv_X9_foesBy ln_X9_481 rfl rfl (Nat.le_of_ble_eq_true rfl) (Nat.le_of_ble_eq_true rfl) (kc' := 0) (ks' := 0) rfl rfl (fun v10 u11 h => ?_)
            refine E_aload_n dX9_way_54 rfl rfl ?_
            refine E_iload_n dX9_way_55 rfl rfl ?_
            refine E_iload_n dX9_way_56 rfl rfl ?_
            refine E_iload_n dX9_way_57 rfl rfl ?_
            refine E_iconst (v := (-1)) dX9_way_58 (by decide) ?_
            refine F_Vi h (fun a m e => tX9_foesBy e) dX9_way_59 hm_X9_foesBy hv_X9_foesBy ln_X9_481 rfl rfl (Nat.le_of_ble_eq_true rfl) (Nat.le_of_ble_eq_true rfl) (kc' := 0) (ks' := 0) rfl rfl (fun v12 u13 h => ?_)
            refine E_ic_gt (tgt := 69) h dX9_way_62 (by decide) (fun h => ?_) (fun h => ?_)
            · refine E_iconst (v := 0) dX9_way_69 (by decide) ?_
              refine Eg.pick [0, 1, 2, 3, 4] rfl ?_
              exact pX9_way_70 _ _ _ _ _ _ _ h
            · refine E_iconst (v := 1) dX9_way_65 (by decide) ?_
              refine E_goto (tgt := 70) dX9_way_66 (by decide) ?_
              refine Eg.pick [0, 1, 2, 3, 4] rfl ?_
              exact pX9_way_70 _ _ _ _ _ _ _ h
          · refine E_iconst (v := (-1)) dX9_way_44 (by decide) ?_
            exact E_iret h dX9_way_45 rfl
def bX9_holds_28 (k28 : Mm → Nat → Int32 → Int64 → Int32 → Option (Int64 × Mm)) (u : Mm) (a0 : Nat) (x1 : Int32) (y2 : Int64) (x4 : Int32) : Option (Int64 × Mm) := (if (x1 : Int32) ≤ x4 then some (y2, u) else oK u a0 9 54 (oNn (mR u a0 3) (fun e4 => oA u e4 10 33 (oI (mI u e4 (Int32.toNatClampNeg 33)) (fun v5 => (if (100 : Int64) ≠ 0 then oJ ((y2 * (Int32.toInt64 ((100 : Int32) - v5))) / 100) (fun w6 => oK u a0 9 54 (oNn (mR u a0 3) (fun e7 => oA u e7 10 34 (oI (mI u e7 (Int32.toNatClampNeg 34)) (fun v8 => (if (100 : Int64) ≠ 0 then oJ ((w6 * (Int32.toInt64 ((100 : Int32) - v8))) / 100) (fun w9 => k28 u a0 x1 w9 (x4 + 1)) else none)))))) else none))))))
set_option maxRecDepth 100000 in
set_option maxHeartbeats 4000000 in
theorem pX9_holds_28 {r : Int64} {u' : Mm} {k28 : Mm → Nat → Int32 → Int64 → Int32 → Option (Int64 × Mm)} (hk28 : ∀ (u : Mm) (a0 : Nat) (x1 : Int32) (y2 : Int64) (x4 : Int32), k28 u a0 x1 y2 x4 = some (r, u') → Eg MX9_holds 1 0 0 (some (.long r), u') 28 [(0, .ref a0), (1, .int x1), (2, .long y2), (4, .int x4)] [] u) (u : Mm) (a0 : Nat) (x1 : Int32) (y2 : Int64) (x4 : Int32) (h : bX9_holds_28 k28 u a0 x1 y2 x4 = some (r, u')) : Eg MX9_holds 1 0 0 (some (.long r), u') 28 [(0, .ref a0), (1, .int x1), (2, .long y2), (4, .int x4)] [] u := by
  unfold bX9_holds_28 at h
  refine E_iload dX9_holds_28 rfl ?_
  refine E_iload_n dX9_holds_30 rfl rfl ?_
  refine E_ic_ge (tgt := 76) h dX9_holds_31 (by decide) (fun h => ?_) (fun h => ?_)
  · refine E_lload_n dX9_holds_76 rfl rfl ?_
    exact E_lret h dX9_holds_77 rfl
  · refine E_lload_n dX9_holds_34 rfl rfl ?_
    refine E_bipush (v := 100) dX9_holds_35 (by decide) ?_
    refine E_aload_n dX9_holds_37 rfl rfl ?_
    refine E_getA h dX9_holds_38 cf9 lk_X9_13 (by decide) (fun _ _ _ => rfl) (fun e4 h => ?_)
    refine E_bipush (v := 33) dX9_holds_41 (by decide) ?_
    refine E_iald h dX9_holds_43 (fun h => ?_)
    refine E_oI h (fun v5 h => ?_)
    refine E_isub dX9_holds_44 ?_
    refine E_i2l dX9_holds_45 ?_
    refine E_lmul dX9_holds_46 ?_
    refine E_ldc2 dX9_holds_47 rfl cn_X9_489 ?_
    refine E_ldiv h dX9_holds_50 (fun h => ?_)
    refine E_oJ h (fun w6 h => ?_)
    refine E_lstore_n (l' := [(2, .long w6), (0, .ref a0), (1, .int x1), (4, .int x4)]) dX9_holds_51 rfl (Nat.le_of_ble_eq_true rfl) rfl ?_
    refine E_lload_n dX9_holds_52 rfl rfl ?_
    refine E_bipush (v := 100) dX9_holds_53 (by decide) ?_
    refine E_aload_n dX9_holds_55 rfl rfl ?_
    refine E_getA h dX9_holds_56 cf9 lk_X9_13 (by decide) (fun _ _ _ => rfl) (fun e7 h => ?_)
    refine E_bipush (v := 34) dX9_holds_59 (by decide) ?_
    refine E_iald h dX9_holds_61 (fun h => ?_)
    refine E_oI h (fun v8 h => ?_)
    refine E_isub dX9_holds_62 ?_
    refine E_i2l dX9_holds_63 ?_
    refine E_lmul dX9_holds_64 ?_
    refine E_ldc2 dX9_holds_65 rfl cn_X9_489 ?_
    refine E_ldiv h dX9_holds_68 (fun h => ?_)
    refine E_oJ h (fun w9 h => ?_)
    refine E_lstore_n (l' := [(2, .long w9), (0, .ref a0), (1, .int x1), (4, .int x4)]) dX9_holds_69 rfl (Nat.le_of_ble_eq_true rfl) rfl ?_
    refine E_iinc (j := 3) (v := x4 + 1) (l' := [(4, .int (x4 + 1)), (2, .long w9), (0, .ref a0), (1, .int x1)]) dX9_holds_70 rfl (addI (by decide)) (Nat.le_of_ble_eq_true rfl) rfl ?_
    refine E_goto (tgt := 28) dX9_holds_73 (by decide) ?_
    refine Eg.pick [2, 3, 1, 0] rfl ?_
    exact hk28 _ _ _ _ _ h
def rX9_holds_28 : Nat → Mm → Nat → Int32 → Int64 → Int32 → Option (Int64 × Mm)
  | 0, _, _, _, _, _ => none
  | n + 1, u, a0, x1, y2, x4 => bX9_holds_28 (rX9_holds_28 n) u a0 x1 y2 x4
theorem prX9_holds_28 {r : Int64} {u' : Mm} : ∀ (n : Nat) (u : Mm) (a0 : Nat) (x1 : Int32) (y2 : Int64) (x4 : Int32), rX9_holds_28 n u a0 x1 y2 x4 = some (r, u') → Eg MX9_holds 1 0 0 (some (.long r), u') 28 [(0, .ref a0), (1, .int x1), (2, .long y2), (4, .int x4)] [] u
  | 0, _, _, _, _, _, h => by cases h
  | n + 1, u, a0, x1, y2, x4, h => pX9_holds_28 (prX9_holds_28 n) u a0 x1 y2 x4 h
def fX9_holds (u : Mm) (a0 : Nat) (x1 : Int32) : Option (Int64 × Mm) := oK u a0 9 54 (oU (wI u a0 (upd (mI u a0) 0 0)) (fun u1 => oB (fX9_in u1 (Int32.toInt64 x1) 0 60) (fun v2 u3 => (if (v2 : Int32) = 0 then some ((-1), u3) else rX9_holds_28 hwF u3 a0 x1 1000000000000 0))))
set_option maxRecDepth 100000 in
set_option maxHeartbeats 4000000 in
theorem tX9_holds {u : Mm} {a0 : Nat} {x1 : Int32} {r : Int64} {u' : Mm} (h : fX9_holds u a0 x1 = some (r, u')) : Ev 1 MX9_holds 0 0 [.ref a0, .int x1] u (some (.long r), u') := by
  refine Ev.of (by decide +kernel) (Nat.le_of_ble_eq_true rfl) (show Eg MX9_holds 1 0 0 (some (.long r), u') 0 [(0, .ref a0), (1, .int x1)] [] u from ?_)
  unfold fX9_holds at h
  refine E_aload_n dX9_holds_0 rfl rfl ?_
  refine E_iconst (v := 0) dX9_holds_1 (by decide) ?_
  refine E_putI h dX9_holds_2 cf9 lk_X9_134 (by decide) (Or.inl rfl) rfl (fun h => ?_)
  refine E_oU h (fun u1 h => ?_)
  refine E_iload_n dX9_holds_5 rfl rfl ?_
  refine E_i2l dX9_holds_6 ?_
  refine E_lconst (v := 0) dX9_holds_7 (by decide) ?_
  refine E_ldc2 dX9_holds_8 rfl cn_X9_485 ?_
  refine F_Si h (fun a m e => tX9_in e) dX9_holds_11 hm_X9_in hs_X9_in ln_X9_154 rfl rfl (Nat.le_of_ble_eq_true rfl) (Nat.le_of_ble_eq_true rfl) (kc' := 0) (ks' := 0) rfl rfl (fun v2 u3 h => ?_)
  refine E_if_ne (tgt := 21) h dX9_holds_14 (by decide) (fun h => ?_) (fun h => ?_)
  · refine E_ldc2 dX9_holds_21 rfl cn_X9_487 ?_
    refine E_lstore_n (l' := [(2, .long 1000000000000), (0, .ref a0), (1, .int x1)]) dX9_holds_24 rfl (Nat.le_of_ble_eq_true rfl) rfl ?_
    refine E_iconst (v := 0) dX9_holds_25 (by decide) ?_
    refine E_istore (l' := [(4, .int 0), (2, .long 1000000000000), (0, .ref a0), (1, .int x1)]) dX9_holds_26 (Nat.le_of_ble_eq_true rfl) rfl ?_
    refine Eg.pick [2, 3, 1, 0] rfl ?_
    exact prX9_holds_28 _ _ _ _ _ _ h
  · refine E_ldc2 dX9_holds_17 rfl cn_X9_196 ?_
    exact E_lret h dX9_holds_20 rfl
def bX9_which_93 (k9 : Mm → Nat → Int32 → Int32 → Option (Int32 × Mm)) (u : Mm) (a0 : Nat) (x2 : Int32) (s0 : Int32) (s1 : Int32) : Option (Int32 × Mm) := oI (s1 ||| s0) (fun v4 => k9 u a0 v4 (x2 + 1))
set_option maxRecDepth 100000 in
set_option maxHeartbeats 4000000 in
theorem pX9_which_93 {r : Int32} {u' : Mm} {k9 : Mm → Nat → Int32 → Int32 → Option (Int32 × Mm)} (hk9 : ∀ (u : Mm) (a0 : Nat) (x1 : Int32) (x2 : Int32), k9 u a0 x1 x2 = some (r, u') → Eg MX9_which 5 0 0 (some (.int r), u') 9 [(0, .ref a0), (1, .int x1), (2, .int x2)] [] u) (u : Mm) (a0 : Nat) (x2 : Int32) (s0 : Int32) (s1 : Int32) (h : bX9_which_93 k9 u a0 x2 s0 s1 = some (r, u')) : Eg MX9_which 5 0 0 (some (.int r), u') 93 [(0, .ref a0), (2, .int x2)] [.int s0, .int s1] u := by
  unfold bX9_which_93 at h
  refine E_ior dX9_which_93 ?_
  refine E_oI h (fun v4 h => ?_)
  refine E_istore_n (l' := [(1, .int v4), (0, .ref a0), (2, .int x2)]) dX9_which_94 rfl (Nat.le_of_ble_eq_true rfl) rfl ?_
  refine E_iinc (j := 2) (v := x2 + 1) (l' := [(2, .int (x2 + 1)), (1, .int v4), (0, .ref a0)]) dX9_which_95 rfl (addI (by decide)) (Nat.le_of_ble_eq_true rfl) rfl ?_
  refine E_goto (tgt := 9) dX9_which_98 (by decide) ?_
  refine Eg.pick [2, 1, 0] rfl ?_
  exact hk9 _ _ _ _ h
def bX9_which_81 (k9 : Mm → Nat → Int32 → Int32 → Option (Int32 × Mm)) (u : Mm) (a0 : Nat) (x1 : Int32) (x2 : Int32) (x3 : Int32) : Option (Int32 × Mm) := (if (x3 : Int32) = 0 then bX9_which_93 k9 u a0 x2 0 x1 else bX9_which_93 k9 u a0 x2 ((1 : Int32) <<< (x2 &&& 31)) x1)
set_option maxRecDepth 100000 in
set_option maxHeartbeats 4000000 in
theorem pX9_which_81 {r : Int32} {u' : Mm} {k9 : Mm → Nat → Int32 → Int32 → Option (Int32 × Mm)} (hk9 : ∀ (u : Mm) (a0 : Nat) (x1 : Int32) (x2 : Int32), k9 u a0 x1 x2 = some (r, u') → Eg MX9_which 5 0 0 (some (.int r), u') 9 [(0, .ref a0), (1, .int x1), (2, .int x2)] [] u) (u : Mm) (a0 : Nat) (x1 : Int32) (x2 : Int32) (x3 : Int32) (h : bX9_which_81 k9 u a0 x1 x2 x3 = some (r, u')) : Eg MX9_which 5 0 0 (some (.int r), u') 81 [(0, .ref a0), (1, .int x1), (2, .int x2), (3, .int x3)] [] u := by
  unfold bX9_which_81 at h
  refine E_iload_n dX9_which_81 rfl rfl ?_
  refine E_iload_n dX9_which_82 rfl rfl ?_
  refine E_if_eq (tgt := 92) h dX9_which_83 (by decide) (fun h => ?_) (fun h => ?_)
  · refine E_iconst (v := 0) dX9_which_92 (by decide) ?_
    refine Eg.pick [0, 2] rfl ?_
    exact pX9_which_93 hk9 _ _ _ _ _ h
  · refine E_iconst (v := 1) dX9_which_86 (by decide) ?_
    refine E_iload_n dX9_which_87 rfl rfl ?_
    refine E_ishl dX9_which_88 ?_
    refine E_goto (tgt := 93) dX9_which_89 (by decide) ?_
    refine Eg.pick [0, 2] rfl ?_
    exact pX9_which_93 hk9 _ _ _ _ _ h
def bX9_which_74 (k9 : Mm → Nat → Int32 → Int32 → Option (Int32 × Mm)) (k20 : Mm → Nat → Int32 → Int32 → Int32 → Int32 → Option (Int32 × Mm)) (u : Mm) (a0 : Nat) (x1 : Int32) (x2 : Int32) (x4 : Int32) (s0 : Int32) : Option (Int32 × Mm) := k20 u a0 x1 x2 s0 (x4 + 1)
set_option maxRecDepth 100000 in
set_option maxHeartbeats 4000000 in
theorem pX9_which_74 {r : Int32} {u' : Mm} {k9 : Mm → Nat → Int32 → Int32 → Option (Int32 × Mm)} (hk9 : ∀ (u : Mm) (a0 : Nat) (x1 : Int32) (x2 : Int32), k9 u a0 x1 x2 = some (r, u') → Eg MX9_which 5 0 0 (some (.int r), u') 9 [(0, .ref a0), (1, .int x1), (2, .int x2)] [] u) {k20 : Mm → Nat → Int32 → Int32 → Int32 → Int32 → Option (Int32 × Mm)} (hk20 : ∀ (u : Mm) (a0 : Nat) (x1 : Int32) (x2 : Int32) (x3 : Int32) (x4 : Int32), k20 u a0 x1 x2 x3 x4 = some (r, u') → Eg MX9_which 5 0 0 (some (.int r), u') 20 [(0, .ref a0), (1, .int x1), (2, .int x2), (3, .int x3), (4, .int x4)] [] u) (u : Mm) (a0 : Nat) (x1 : Int32) (x2 : Int32) (x4 : Int32) (s0 : Int32) (h : bX9_which_74 k9 k20 u a0 x1 x2 x4 s0 = some (r, u')) : Eg MX9_which 5 0 0 (some (.int r), u') 74 [(0, .ref a0), (1, .int x1), (2, .int x2), (4, .int x4)] [.int s0] u := by
  unfold bX9_which_74 at h
  refine E_istore_n (l' := [(3, .int s0), (0, .ref a0), (1, .int x1), (2, .int x2), (4, .int x4)]) dX9_which_74 rfl (Nat.le_of_ble_eq_true rfl) rfl ?_
  refine E_iinc (j := 4) (v := x4 + 1) (l' := [(4, .int (x4 + 1)), (3, .int s0), (0, .ref a0), (1, .int x1), (2, .int x2)]) dX9_which_75 rfl (addI (by decide)) (Nat.le_of_ble_eq_true rfl) rfl ?_
  refine E_goto (tgt := 20) dX9_which_78 (by decide) ?_
  refine Eg.pick [2, 3, 4, 1, 0] rfl ?_
  exact hk20 _ _ _ _ _ _ h
def bX9_which_20 (k9 : Mm → Nat → Int32 → Int32 → Option (Int32 × Mm)) (k20 : Mm → Nat → Int32 → Int32 → Int32 → Int32 → Option (Int32 × Mm)) (u : Mm) (a0 : Nat) (x1 : Int32) (x2 : Int32) (x3 : Int32) (x4 : Int32) : Option (Int32 × Mm) := oK u a0 9 54 (oNn (mR u a0 3) (fun e2 => oA u e2 10 1 (oI (mI u e2 (Int32.toNatClampNeg 1)) (fun v3 => (if (v3 : Int32) ≤ x4 then bX9_which_81 k9 u a0 x1 x2 x3 else (if (x3 : Int32) = 0 then bX9_which_81 k9 u a0 x1 x2 x3 else oK u a0 9 54 (oNn (mR u a0 3) (fun e5 => oA u e5 10 ((115 : Int32) + ((2 : Int32) * x4)) (oI (mI u e5 (Int32.toNatClampNeg ((115 : Int32) + ((2 : Int32) * x4)))) (fun v6 => oR u a0 9 (oB (fX9_readsOf u a0 x2 v6) (fun v7 u8 => oK u8 a0 9 54 (oNn (mR u8 a0 3) (fun e9 => oA u8 e9 10 (((115 : Int32) + ((2 : Int32) * x4)) + 1) (oI (mI u8 e9 (Int32.toNatClampNeg (((115 : Int32) + ((2 : Int32) * x4)) + 1))) (fun v10 => (if (v7 : Int32) = v10 then bX9_which_74 k9 k20 u8 a0 x1 x2 x4 1 else bX9_which_74 k9 k20 u8 a0 x1 x2 x4 0)))))))))))))))))
set_option maxRecDepth 100000 in
set_option maxHeartbeats 4000000 in
theorem pX9_which_20 {r : Int32} {u' : Mm} {k9 : Mm → Nat → Int32 → Int32 → Option (Int32 × Mm)} (hk9 : ∀ (u : Mm) (a0 : Nat) (x1 : Int32) (x2 : Int32), k9 u a0 x1 x2 = some (r, u') → Eg MX9_which 5 0 0 (some (.int r), u') 9 [(0, .ref a0), (1, .int x1), (2, .int x2)] [] u) {k20 : Mm → Nat → Int32 → Int32 → Int32 → Int32 → Option (Int32 × Mm)} (hk20 : ∀ (u : Mm) (a0 : Nat) (x1 : Int32) (x2 : Int32) (x3 : Int32) (x4 : Int32), k20 u a0 x1 x2 x3 x4 = some (r, u') → Eg MX9_which 5 0 0 (some (.int r), u') 20 [(0, .ref a0), (1, .int x1), (2, .int x2), (3, .int x3), (4, .int x4)] [] u) (u : Mm) (a0 : Nat) (x1 : Int32) (x2 : Int32) (x3 : Int32) (x4 : Int32) (h : bX9_which_20 k9 k20 u a0 x1 x2 x3 x4 = some (r, u')) : Eg MX9_which 5 0 0 (some (.int r), u') 20 [(0, .ref a0), (1, .int x1), (2, .int x2), (3, .int x3), (4, .int x4)] [] u := by
  unfold bX9_which_20 at h
  refine E_iload dX9_which_20 rfl ?_
  refine E_aload_n dX9_which_22 rfl rfl ?_
  refine E_getA h dX9_which_23 cf9 lk_X9_13 (by decide) (fun _ _ _ => rfl) (fun e2 h => ?_)
  refine E_iconst (v := 1) dX9_which_26 (by decide) ?_
  refine E_iald h dX9_which_27 (fun h => ?_)
  refine E_oI h (fun v3 h => ?_)
  refine E_ic_ge (tgt := 81) h dX9_which_28 (by decide) (fun h => ?_) (fun h => ?_)
  · refine Eg.pick [0, 1, 2, 3] rfl ?_
    exact pX9_which_81 hk9 _ _ _ _ _ h
  · refine E_iload_n dX9_which_31 rfl rfl ?_
    refine E_if_eq (tgt := 81) h dX9_which_32 (by decide) (fun h => ?_) (fun h => ?_)
    · refine Eg.pick [0, 1, 2, 3] rfl ?_
      exact pX9_which_81 hk9 _ _ _ _ _ h
    · refine E_aload_n dX9_which_35 rfl rfl ?_
      refine E_iload_n dX9_which_36 rfl rfl ?_
      refine E_aload_n dX9_which_37 rfl rfl ?_
      refine E_getA h dX9_which_38 cf9 lk_X9_13 (by decide) (fun _ _ _ => rfl) (fun e5 h => ?_)
      refine E_bipush (v := 115) dX9_which_41 (by decide) ?_
      refine E_iconst (v := 2) dX9_which_43 (by decide) ?_
      refine E_iload dX9_which_44 rfl ?_
      refine E_imul dX9_which_46 ?_
      refine E_iadd dX9_which_47 ?_
      refine E_iald h dX9_which_48 (fun h => ?_)
      refine E_oI h (fun v6 h => ?_)
      refine F_Vi h (fun a m e => tX9_readsOf e) dX9_which_49 hm_X9_readsOf hv_X9_readsOf ln_X9_198 rfl rfl (Nat.le_of_ble_eq_true rfl) (Nat.le_of_ble_eq_true rfl) (kc' := 0) (ks' := 0) rfl rfl (fun v7 u8 h => ?_)
      refine E_aload_n dX9_which_52 rfl rfl ?_
      refine E_getA h dX9_which_53 cf9 lk_X9_13 (by decide) (fun _ _ _ => rfl) (fun e9 h => ?_)
      refine E_bipush (v := 115) dX9_which_56 (by decide) ?_
      refine E_iconst (v := 2) dX9_which_58 (by decide) ?_
      refine E_iload dX9_which_59 rfl ?_
      refine E_imul dX9_which_61 ?_
      refine E_iadd dX9_which_62 ?_
      refine E_iconst (v := 1) dX9_which_63 (by decide) ?_
      refine E_iadd dX9_which_64 ?_
      refine E_iald h dX9_which_65 (fun h => ?_)
      refine E_oI h (fun v10 h => ?_)
      refine E_ic_ne (tgt := 73) h dX9_which_66 (by decide) (fun h => ?_) (fun h => ?_)
      · refine E_iconst (v := 0) dX9_which_73 (by decide) ?_
        refine Eg.pick [0, 1, 2, 4] rfl ?_
        exact pX9_which_74 hk9 hk20 _ _ _ _ _ _ h
      · refine E_iconst (v := 1) dX9_which_69 (by decide) ?_
        refine E_goto (tgt := 74) dX9_which_70 (by decide) ?_
        refine Eg.pick [0, 1, 2, 4] rfl ?_
        exact pX9_which_74 hk9 hk20 _ _ _ _ _ _ h
def rX9_which_20 (k9 : Mm → Nat → Int32 → Int32 → Option (Int32 × Mm)) : Nat → Mm → Nat → Int32 → Int32 → Int32 → Int32 → Option (Int32 × Mm)
  | 0, _, _, _, _, _, _ => none
  | n + 1, u, a0, x1, x2, x3, x4 => bX9_which_20 k9 (rX9_which_20 k9 n) u a0 x1 x2 x3 x4
theorem prX9_which_20 {r : Int32} {u' : Mm} {k9 : Mm → Nat → Int32 → Int32 → Option (Int32 × Mm)} (hk9 : ∀ (u : Mm) (a0 : Nat) (x1 : Int32) (x2 : Int32), k9 u a0 x1 x2 = some (r, u') → Eg MX9_which 5 0 0 (some (.int r), u') 9 [(0, .ref a0), (1, .int x1), (2, .int x2)] [] u) : ∀ (n : Nat) (u : Mm) (a0 : Nat) (x1 : Int32) (x2 : Int32) (x3 : Int32) (x4 : Int32), rX9_which_20 k9 n u a0 x1 x2 x3 x4 = some (r, u') → Eg MX9_which 5 0 0 (some (.int r), u') 20 [(0, .ref a0), (1, .int x1), (2, .int x2), (3, .int x3), (4, .int x4)] [] u
  | 0, _, _, _, _, _, _, h => by cases h
  | n + 1, u, a0, x1, x2, x3, x4, h => pX9_which_20 hk9 (prX9_which_20 hk9 n) u a0 x1 x2 x3 x4 h
def bX9_which_9 (k9 : Mm → Nat → Int32 → Int32 → Option (Int32 × Mm)) (u : Mm) (a0 : Nat) (x1 : Int32) (x2 : Int32) : Option (Int32 × Mm) := (if (8 : Int32) ≤ x2 then some (x1, u) else rX9_which_20 k9 hwF u a0 x1 x2 1 0)
set_option maxRecDepth 100000 in
set_option maxHeartbeats 4000000 in
theorem pX9_which_9 {r : Int32} {u' : Mm} {k9 : Mm → Nat → Int32 → Int32 → Option (Int32 × Mm)} (hk9 : ∀ (u : Mm) (a0 : Nat) (x1 : Int32) (x2 : Int32), k9 u a0 x1 x2 = some (r, u') → Eg MX9_which 5 0 0 (some (.int r), u') 9 [(0, .ref a0), (1, .int x1), (2, .int x2)] [] u) (u : Mm) (a0 : Nat) (x1 : Int32) (x2 : Int32) (h : bX9_which_9 k9 u a0 x1 x2 = some (r, u')) : Eg MX9_which 5 0 0 (some (.int r), u') 9 [(0, .ref a0), (1, .int x1), (2, .int x2)] [] u := by
  unfold bX9_which_9 at h
  refine E_iload_n dX9_which_9 rfl rfl ?_
  refine E_bipush (v := 8) dX9_which_10 (by decide) ?_
  refine E_ic_ge (tgt := 101) h dX9_which_12 (by decide) (fun h => ?_) (fun h => ?_)
  · refine E_iload_n dX9_which_101 rfl rfl ?_
    exact E_iret h dX9_which_102 rfl
  · refine E_iconst (v := 1) dX9_which_15 (by decide) ?_
    refine E_istore_n (l' := [(3, .int 1), (0, .ref a0), (1, .int x1), (2, .int x2)]) dX9_which_16 rfl (Nat.le_of_ble_eq_true rfl) rfl ?_
    refine E_iconst (v := 0) dX9_which_17 (by decide) ?_
    refine E_istore (l' := [(4, .int 0), (3, .int 1), (0, .ref a0), (1, .int x1), (2, .int x2)]) dX9_which_18 (Nat.le_of_ble_eq_true rfl) rfl ?_
    refine Eg.pick [2, 3, 4, 1, 0] rfl ?_
    exact prX9_which_20 hk9 _ _ _ _ _ _ _ h
def rX9_which_9 : Nat → Mm → Nat → Int32 → Int32 → Option (Int32 × Mm)
  | 0, _, _, _, _ => none
  | n + 1, u, a0, x1, x2 => bX9_which_9 (rX9_which_9 n) u a0 x1 x2
theorem prX9_which_9 {r : Int32} {u' : Mm} : ∀ (n : Nat) (u : Mm) (a0 : Nat) (x1 : Int32) (x2 : Int32), rX9_which_9 n u a0 x1 x2 = some (r, u') → Eg MX9_which 5 0 0 (some (.int r), u') 9 [(0, .ref a0), (1, .int x1), (2, .int x2)] [] u
  | 0, _, _, _, _, h => by cases h
  | n + 1, u, a0, x1, x2, h => pX9_which_9 (prX9_which_9 n) u a0 x1 x2 h
def fX9_which (u : Mm) (a0 : Nat) : Option (Int32 × Mm) := oK u a0 9 54 (oU (wI u a0 (upd (mI u a0) 0 0)) (fun u1 => rX9_which_9 hwF u1 a0 0 0))
set_option maxRecDepth 100000 in
set_option maxHeartbeats 4000000 in
theorem tX9_which {u : Mm} {a0 : Nat} {r : Int32} {u' : Mm} (h : fX9_which u a0 = some (r, u')) : Ev 5 MX9_which 0 0 [.ref a0] u (some (.int r), u') := by
  refine Ev.of (by decide +kernel) (Nat.le_of_ble_eq_true rfl) (show Eg MX9_which 5 0 0 (some (.int r), u') 0 [(0, .ref a0)] [] u from ?_)
  unfold fX9_which at h
  refine E_aload_n dX9_which_0 rfl rfl ?_
  refine E_iconst (v := 0) dX9_which_1 (by decide) ?_
  refine E_putI h dX9_which_2 cf9 lk_X9_134 (by decide) (Or.inl rfl) rfl (fun h => ?_)
  refine E_oU h (fun u1 h => ?_)
  refine E_iconst (v := 0) dX9_which_5 (by decide) ?_
  refine E_istore_n (l' := [(1, .int 0), (0, .ref a0)]) dX9_which_6 rfl (Nat.le_of_ble_eq_true rfl) rfl ?_
  refine E_iconst (v := 0) dX9_which_7 (by decide) ?_
  refine E_istore_n (l' := [(2, .int 0), (1, .int 0), (0, .ref a0)]) dX9_which_8 rfl (Nat.le_of_ble_eq_true rfl) rfl ?_
  refine Eg.pick [2, 1, 0] rfl ?_
  exact prX9_which_9 _ _ _ _ _ h
def bX9_compare_34 (k34 : Mm → Nat → Int32 → Int32 → Int32 → Option (Int32 × Mm)) (u : Mm) (a0 : Nat) (x2 : Int32) (x3 : Int32) (x4 : Int32) : Option (Int32 × Mm) := (if (8 : Int32) ≤ x4 then oK u a0 9 54 (oNn (mR u a0 3) (fun e8 => oA u e8 10 3 (oU (wI u e8 (upd (mI u e8) (Int32.toNatClampNeg 3) x2)) (fun u9 => some (x3, u9))))) else oR u a0 9 (oB (fX9_costsOf u a0 0 x4) (fun v10 u11 => oR u11 a0 9 (oB (fX9_costsOf u11 a0 1 x4) (fun v12 u13 => oI (x3 + (v10 + v12)) (fun v14 => k34 u13 a0 x2 v14 (x4 + 1)))))))
set_option maxRecDepth 100000 in
set_option maxHeartbeats 4000000 in
theorem pX9_compare_34 {r : Int32} {u' : Mm} {k34 : Mm → Nat → Int32 → Int32 → Int32 → Option (Int32 × Mm)} (hk34 : ∀ (u : Mm) (a0 : Nat) (x2 : Int32) (x3 : Int32) (x4 : Int32), k34 u a0 x2 x3 x4 = some (r, u') → Eg MX9_compare 5 0 0 (some (.int r), u') 34 [(0, .ref a0), (2, .int x2), (3, .int x3), (4, .int x4)] [] u) (u : Mm) (a0 : Nat) (x2 : Int32) (x3 : Int32) (x4 : Int32) (h : bX9_compare_34 k34 u a0 x2 x3 x4 = some (r, u')) : Eg MX9_compare 5 0 0 (some (.int r), u') 34 [(0, .ref a0), (2, .int x2), (3, .int x3), (4, .int x4)] [] u := by
  unfold bX9_compare_34 at h
  refine E_iload dX9_compare_34 rfl ?_
  refine E_bipush (v := 8) dX9_compare_36 (by decide) ?_
  refine E_ic_ge (tgt := 65) h dX9_compare_38 (by decide) (fun h => ?_) (fun h => ?_)
  · refine E_aload_n dX9_compare_65 rfl rfl ?_
    refine E_getA h dX9_compare_66 cf9 lk_X9_13 (by decide) (fun _ _ _ => rfl) (fun e8 h => ?_)
    refine E_iconst (v := 3) dX9_compare_69 (by decide) ?_
    refine E_iload_n dX9_compare_70 rfl rfl ?_
    refine E_iast h dX9_compare_71 (fun h => ?_)
    refine E_oU h (fun u9 h => ?_)
    refine E_iload_n dX9_compare_72 rfl rfl ?_
    exact E_iret h dX9_compare_73 rfl
  · refine E_iload_n dX9_compare_41 rfl rfl ?_
    refine E_aload_n dX9_compare_42 rfl rfl ?_
    refine E_iconst (v := 0) dX9_compare_43 (by decide) ?_
    refine E_iload dX9_compare_44 rfl ?_
    refine F_Vi h (fun a m e => tX9_costsOf e) dX9_compare_46 hm_X9_costsOf hv_X9_costsOf ln_X9_179 rfl rfl (Nat.le_of_ble_eq_true rfl) (Nat.le_of_ble_eq_true rfl) (kc' := 0) (ks' := 0) rfl rfl (fun v10 u11 h => ?_)
    refine E_aload_n dX9_compare_49 rfl rfl ?_
    refine E_iconst (v := 1) dX9_compare_50 (by decide) ?_
    refine E_iload dX9_compare_51 rfl ?_
    refine F_Vi h (fun a m e => tX9_costsOf e) dX9_compare_53 hm_X9_costsOf hv_X9_costsOf ln_X9_179 rfl rfl (Nat.le_of_ble_eq_true rfl) (Nat.le_of_ble_eq_true rfl) (kc' := 0) (ks' := 0) rfl rfl (fun v12 u13 h => ?_)
    refine E_iadd dX9_compare_56 ?_
    refine E_iadd dX9_compare_57 ?_
    refine E_oI h (fun v14 h => ?_)
    refine E_istore_n (l' := [(3, .int v14), (0, .ref a0), (2, .int x2), (4, .int x4)]) dX9_compare_58 rfl (Nat.le_of_ble_eq_true rfl) rfl ?_
    refine E_iinc (j := 3) (v := x4 + 1) (l' := [(4, .int (x4 + 1)), (3, .int v14), (0, .ref a0), (2, .int x2)]) dX9_compare_59 rfl (addI (by decide)) (Nat.le_of_ble_eq_true rfl) rfl ?_
    refine E_goto (tgt := 34) dX9_compare_62 (by decide) ?_
    refine Eg.pick [2, 3, 1, 0] rfl ?_
    exact hk34 _ _ _ _ _ h
def rX9_compare_34 : Nat → Mm → Nat → Int32 → Int32 → Int32 → Option (Int32 × Mm)
  | 0, _, _, _, _, _ => none
  | n + 1, u, a0, x2, x3, x4 => bX9_compare_34 (rX9_compare_34 n) u a0 x2 x3 x4
theorem prX9_compare_34 {r : Int32} {u' : Mm} : ∀ (n : Nat) (u : Mm) (a0 : Nat) (x2 : Int32) (x3 : Int32) (x4 : Int32), rX9_compare_34 n u a0 x2 x3 x4 = some (r, u') → Eg MX9_compare 5 0 0 (some (.int r), u') 34 [(0, .ref a0), (2, .int x2), (3, .int x3), (4, .int x4)] [] u
  | 0, _, _, _, _, _, h => by cases h
  | n + 1, u, a0, x2, x3, x4, h => pX9_compare_34 (prX9_compare_34 n) u a0 x2 x3 x4 h
def fX9_compare (u : Mm) (a0 : Nat) (x1 : Int32) : Option (Int32 × Mm) := oK u a0 9 54 (oU (wI u a0 (upd (mI u a0) 0 0)) (fun u1 => oR u1 a0 9 (oB (fX9_isLaw u1 a0 x1) (fun v2 u3 => (if (v2 : Int32) = 0 then some ((-1), u3) else oK u3 a0 9 54 (oNn (mR u3 a0 3) (fun e4 => oA u3 e4 10 3 (oI (mI u3 e4 (Int32.toNatClampNeg 3)) (fun v5 => oK u3 a0 9 54 (oNn (mR u3 a0 3) (fun e6 => oA u3 e6 10 3 (oU (wI u3 e6 (upd (mI u3 e6) (Int32.toNatClampNeg 3) x1)) (fun u7 => rX9_compare_34 hwF u7 a0 v5 0 0)))))))))))))
set_option maxRecDepth 100000 in
set_option maxHeartbeats 4000000 in
theorem tX9_compare {u : Mm} {a0 : Nat} {x1 : Int32} {r : Int32} {u' : Mm} (h : fX9_compare u a0 x1 = some (r, u')) : Ev 5 MX9_compare 0 0 [.ref a0, .int x1] u (some (.int r), u') := by
  refine Ev.of (by decide +kernel) (Nat.le_of_ble_eq_true rfl) (show Eg MX9_compare 5 0 0 (some (.int r), u') 0 [(0, .ref a0), (1, .int x1)] [] u from ?_)
  unfold fX9_compare at h
  refine E_aload_n dX9_compare_0 rfl rfl ?_
  refine E_iconst (v := 0) dX9_compare_1 (by decide) ?_
  refine E_putI h dX9_compare_2 cf9 lk_X9_134 (by decide) (Or.inl rfl) rfl (fun h => ?_)
  refine E_oU h (fun u1 h => ?_)
  refine E_aload_n dX9_compare_5 rfl rfl ?_
  refine E_iload_n dX9_compare_6 rfl rfl ?_
  refine F_Vi h (fun a m e => tX9_isLaw e) dX9_compare_7 hm_X9_isLaw hv_X9_isLaw ln_X9_365 rfl rfl (Nat.le_of_ble_eq_true rfl) (Nat.le_of_ble_eq_true rfl) (kc' := 0) (ks' := 0) rfl rfl (fun v2 u3 h => ?_)
  refine E_if_ne (tgt := 15) h dX9_compare_10 (by decide) (fun h => ?_) (fun h => ?_)
  · refine E_aload_n dX9_compare_15 rfl rfl ?_
    refine E_getA h dX9_compare_16 cf9 lk_X9_13 (by decide) (fun _ _ _ => rfl) (fun e4 h => ?_)
    refine E_iconst (v := 3) dX9_compare_19 (by decide) ?_
    refine E_iald h dX9_compare_20 (fun h => ?_)
    refine E_oI h (fun v5 h => ?_)
    refine E_istore_n (l' := [(2, .int v5), (0, .ref a0), (1, .int x1)]) dX9_compare_21 rfl (Nat.le_of_ble_eq_true rfl) rfl ?_
    refine E_aload_n dX9_compare_22 rfl rfl ?_
    refine E_getA h dX9_compare_23 cf9 lk_X9_13 (by decide) (fun _ _ _ => rfl) (fun e6 h => ?_)
    refine E_iconst (v := 3) dX9_compare_26 (by decide) ?_
    refine E_iload_n dX9_compare_27 rfl rfl ?_
    refine E_iast h dX9_compare_28 (fun h => ?_)
    refine E_oU h (fun u7 h => ?_)
    refine E_iconst (v := 0) dX9_compare_29 (by decide) ?_
    refine E_istore_n (l' := [(3, .int 0), (2, .int v5), (0, .ref a0), (1, .int x1)]) dX9_compare_30 rfl (Nat.le_of_ble_eq_true rfl) rfl ?_
    refine E_iconst (v := 0) dX9_compare_31 (by decide) ?_
    refine E_istore (l' := [(4, .int 0), (3, .int 0), (2, .int v5), (0, .ref a0), (1, .int x1)]) dX9_compare_32 (Nat.le_of_ble_eq_true rfl) rfl ?_
    refine Eg.pick [3, 2, 1, 0] rfl ?_
    exact prX9_compare_34 _ _ _ _ _ _ h
  · refine E_iconst (v := (-1)) dX9_compare_13 (by decide) ?_
    exact E_iret h dX9_compare_14 rfl
