/-! ===== methods as functions, with their contracts (printed by program) ===== -/
def fX9_costsOf (u : Mm) (a0 : Nat) (x1 : Int32) (x2 : Int32) : Option (Int32 × Mm) := oR u a0 9 (oB (fX9_menOf u a0 x1 x2) (fun v1 u2 => oR u2 a0 9 (oB (fX9_tells u2 a0 1 x1 x2 ((-1)) v1 5) (fun w3 u4 => oB (fX9_within u4 w3 0 99) (fun v5 u6 => some (v5, u6))))))
set_option maxRecDepth 100000 in
set_option maxHeartbeats 4000000 in
theorem tX9_costsOf {u : Mm} {a0 : Nat} {x1 : Int32} {x2 : Int32} {r : Int32} {u' : Mm} (h : fX9_costsOf u a0 x1 x2 = some (r, u')) : Ev 4 MX9_costsOf 0 0 [.ref a0, .int x1, .int x2] u (some (.int r), u') := by
  refine Ev.of (by decide +kernel) (Nat.le_of_ble_eq_true rfl) (show Eg MX9_costsOf 4 0 0 (some (.int r), u') 0 [(0, .ref a0), (1, .int x1), (2, .int x2)] [] u from ?_)
  unfold fX9_costsOf at h
  refine E_aload_n dX9_costsOf_0 rfl rfl ?_
  refine E_iconst (v := 1) dX9_costsOf_1 (by decide) ?_
  refine E_iload_n dX9_costsOf_2 rfl rfl ?_
  refine E_iload_n dX9_costsOf_3 rfl rfl ?_
  refine E_iconst (v := (-1)) dX9_costsOf_4 (by decide) ?_
  refine E_aload_n dX9_costsOf_5 rfl rfl ?_
  refine E_iload_n dX9_costsOf_6 rfl rfl ?_
  refine E_iload_n dX9_costsOf_7 rfl rfl ?_
  refine F_Vi h (fun a m e => tX9_menOf e) dX9_costsOf_8 hm_X9_menOf hv_X9_menOf ln_X9_163 rfl rfl (Nat.le_of_ble_eq_true rfl) (Nat.le_of_ble_eq_true rfl) (kc' := 0) (ks' := 0) rfl rfl (fun v1 u2 h => ?_)
  refine E_ldc2 dX9_costsOf_11 rfl cn_X9_402 ?_
  refine F_Vl h (fun a m e => tX9_tells e) dX9_costsOf_14 hm_X9_tells hv_X9_tells ln_X9_394 rfl rfl (Nat.le_of_ble_eq_true rfl) (Nat.le_of_ble_eq_true rfl) (kc' := 0) (ks' := 0) rfl rfl (fun w3 u4 h => ?_)
  refine E_iconst (v := 0) dX9_costsOf_17 (by decide) ?_
  refine E_bipush (v := 99) dX9_costsOf_18 (by decide) ?_
  refine F_Si h (fun a m e => tX9_within e) dX9_costsOf_20 hm_X9_within hs_X9_within ln_X9_398 rfl rfl (Nat.le_of_ble_eq_true rfl) (Nat.le_of_ble_eq_true rfl) (kc' := 0) (ks' := 0) rfl rfl (fun v5 u6 h => ?_)
  exact E_iret h dX9_costsOf_23 rfl
def bX9_isBarred_25 (u : Mm) (s0 : Int32) : Option (Int32 × Mm) := oZ s0 (some (s0, u))
set_option maxRecDepth 100000 in
set_option maxHeartbeats 4000000 in
theorem pX9_isBarred_25 {r : Int32} {u' : Mm} (u : Mm) (s0 : Int32) (h : bX9_isBarred_25 u s0 = some (r, u')) : Eg MX9_isBarred 4 0 0 (some (.int r), u') 25 [] [.int s0] u := by
  unfold bX9_isBarred_25 at h
  exact E_zret h dX9_isBarred_25 rfl
def fX9_isBarred (u : Mm) (a0 : Nat) (x1 : Int32) (x2 : Int32) : Option (Int32 × Mm) := oR u a0 9 (oB (fX9_menOf u a0 x1 x2) (fun v1 u2 => oR u2 a0 9 (oB (fX9_tells u2 a0 3 x1 x2 ((-1)) v1 0) (fun w3 u4 => (if (lg_cmp w3 1 : Int32) = 0 then bX9_isBarred_25 u4 1 else bX9_isBarred_25 u4 0)))))
set_option maxRecDepth 100000 in
set_option maxHeartbeats 4000000 in
theorem tX9_isBarred {u : Mm} {a0 : Nat} {x1 : Int32} {x2 : Int32} {r : Int32} {u' : Mm} (h : fX9_isBarred u a0 x1 x2 = some (r, u')) : Ev 4 MX9_isBarred 0 0 [.ref a0, .int x1, .int x2] u (some (.int r), u') := by
  refine Ev.of (by decide +kernel) (Nat.le_of_ble_eq_true rfl) (show Eg MX9_isBarred 4 0 0 (some (.int r), u') 0 [(0, .ref a0), (1, .int x1), (2, .int x2)] [] u from ?_)
  unfold fX9_isBarred at h
  refine E_aload_n dX9_isBarred_0 rfl rfl ?_
  refine E_iconst (v := 3) dX9_isBarred_1 (by decide) ?_
  refine E_iload_n dX9_isBarred_2 rfl rfl ?_
  refine E_iload_n dX9_isBarred_3 rfl rfl ?_
  refine E_iconst (v := (-1)) dX9_isBarred_4 (by decide) ?_
  refine E_aload_n dX9_isBarred_5 rfl rfl ?_
  refine E_iload_n dX9_isBarred_6 rfl rfl ?_
  refine E_iload_n dX9_isBarred_7 rfl rfl ?_
  refine F_Vi h (fun a m e => tX9_menOf e) dX9_isBarred_8 hm_X9_menOf hv_X9_menOf ln_X9_163 rfl rfl (Nat.le_of_ble_eq_true rfl) (Nat.le_of_ble_eq_true rfl) (kc' := 0) (ks' := 0) rfl rfl (fun v1 u2 h => ?_)
  refine E_lconst (v := 0) dX9_isBarred_11 (by decide) ?_
  refine F_Vl h (fun a m e => tX9_tells e) dX9_isBarred_12 hm_X9_tells hv_X9_tells ln_X9_394 rfl rfl (Nat.le_of_ble_eq_true rfl) (Nat.le_of_ble_eq_true rfl) (kc' := 0) (ks' := 0) rfl rfl (fun w3 u4 h => ?_)
  refine E_lconst (v := 1) dX9_isBarred_15 (by decide) ?_
  refine E_lcmp dX9_isBarred_16 ?_
  refine E_if_ne (tgt := 24) h dX9_isBarred_17 (by decide) (fun h => ?_) (fun h => ?_)
  · refine E_iconst (v := 0) dX9_isBarred_24 (by decide) ?_
    refine Eg.pick [] rfl ?_
    exact pX9_isBarred_25 _ _ h
  · refine E_iconst (v := 1) dX9_isBarred_20 (by decide) ?_
    refine E_goto (tgt := 25) dX9_isBarred_21 (by decide) ?_
    refine Eg.pick [] rfl ?_
    exact pX9_isBarred_25 _ _ h
def bX9_at_70 (u : Mm) (a0 : Nat) (x1 : Int32) (x2 : Int32) : Option (Int32 × Mm) := oR u a0 9 (oB (fX9_menOf u a0 (x2 - 1) x1) (fun v6 u7 => some (v6, u7)))
set_option maxRecDepth 100000 in
set_option maxHeartbeats 4000000 in
theorem pX9_at_70 {r : Int32} {u' : Mm} (u : Mm) (a0 : Nat) (x1 : Int32) (x2 : Int32) (h : bX9_at_70 u a0 x1 x2 = some (r, u')) : Eg MX9_at 5 0 0 (some (.int r), u') 70 [(0, .ref a0), (1, .int x1), (2, .int x2)] [] u := by
  unfold bX9_at_70 at h
  refine E_aload_n dX9_at_70 rfl rfl ?_
  refine E_iload_n dX9_at_71 rfl rfl ?_
  refine E_iconst (v := 1) dX9_at_72 (by decide) ?_
  refine E_isub dX9_at_73 ?_
  refine E_iload_n dX9_at_74 rfl rfl ?_
  refine F_Vi h (fun a m e => tX9_menOf e) dX9_at_75 hm_X9_menOf hv_X9_menOf ln_X9_163 rfl rfl (Nat.le_of_ble_eq_true rfl) (Nat.le_of_ble_eq_true rfl) (kc' := 0) (ks' := 0) rfl rfl (fun v6 u7 h => ?_)
  exact E_iret h dX9_at_78 rfl
def bX9_at_79 (u : Mm) (a0 : Nat) (x1 : Int32) (x2 : Int32) : Option (Int32 × Mm) := oR u a0 9 (oB (fX9_costsOf u a0 (x2 - 3) x1) (fun v8 u9 => some (v8, u9)))
set_option maxRecDepth 100000 in
set_option maxHeartbeats 4000000 in
theorem pX9_at_79 {r : Int32} {u' : Mm} (u : Mm) (a0 : Nat) (x1 : Int32) (x2 : Int32) (h : bX9_at_79 u a0 x1 x2 = some (r, u')) : Eg MX9_at 5 0 0 (some (.int r), u') 79 [(0, .ref a0), (1, .int x1), (2, .int x2)] [] u := by
  unfold bX9_at_79 at h
  refine E_aload_n dX9_at_79 rfl rfl ?_
  refine E_iload_n dX9_at_80 rfl rfl ?_
  refine E_iconst (v := 3) dX9_at_81 (by decide) ?_
  refine E_isub dX9_at_82 ?_
  refine E_iload_n dX9_at_83 rfl rfl ?_
  refine F_Vi h (fun a m e => tX9_costsOf e) dX9_at_84 hm_X9_costsOf hv_X9_costsOf ln_X9_179 rfl rfl (Nat.le_of_ble_eq_true rfl) (Nat.le_of_ble_eq_true rfl) (kc' := 0) (ks' := 0) rfl rfl (fun v8 u9 h => ?_)
  exact E_iret h dX9_at_87 rfl
def bX9_at_104 (u : Mm) (s0 : Int32) : Option (Int32 × Mm) := some (s0, u)
set_option maxRecDepth 100000 in
set_option maxHeartbeats 4000000 in
theorem pX9_at_104 {r : Int32} {u' : Mm} (u : Mm) (s0 : Int32) (h : bX9_at_104 u s0 = some (r, u')) : Eg MX9_at 5 0 0 (some (.int r), u') 104 [] [.int s0] u := by
  unfold bX9_at_104 at h
  exact E_iret h dX9_at_104 rfl
def bX9_at_88 (u : Mm) (a0 : Nat) (x1 : Int32) (x2 : Int32) : Option (Int32 × Mm) := oR u a0 9 (oB (fX9_isBarred u a0 (x2 - 5) x1) (fun v10 u11 => (if (v10 : Int32) = 0 then bX9_at_104 u11 0 else bX9_at_104 u11 1)))
set_option maxRecDepth 100000 in
set_option maxHeartbeats 4000000 in
theorem pX9_at_88 {r : Int32} {u' : Mm} (u : Mm) (a0 : Nat) (x1 : Int32) (x2 : Int32) (h : bX9_at_88 u a0 x1 x2 = some (r, u')) : Eg MX9_at 5 0 0 (some (.int r), u') 88 [(0, .ref a0), (1, .int x1), (2, .int x2)] [] u := by
  unfold bX9_at_88 at h
  refine E_aload_n dX9_at_88 rfl rfl ?_
  refine E_iload_n dX9_at_89 rfl rfl ?_
  refine E_iconst (v := 5) dX9_at_90 (by decide) ?_
  refine E_isub dX9_at_91 ?_
  refine E_iload_n dX9_at_92 rfl rfl ?_
  refine F_Vi h (fun a m e => tX9_isBarred e) dX9_at_93 hm_X9_isBarred hv_X9_isBarred ln_X9_182 rfl rfl (Nat.le_of_ble_eq_true rfl) (Nat.le_of_ble_eq_true rfl) (kc' := 0) (ks' := 0) rfl rfl (fun v10 u11 h => ?_)
  refine E_if_eq (tgt := 103) h dX9_at_96 (by decide) (fun h => ?_) (fun h => ?_)
  · refine E_iconst (v := 0) dX9_at_103 (by decide) ?_
    refine Eg.pick [] rfl ?_
    exact pX9_at_104 _ _ h
  · refine E_iconst (v := 1) dX9_at_99 (by decide) ?_
    refine E_goto (tgt := 104) dX9_at_100 (by decide) ?_
    refine Eg.pick [] rfl ?_
    exact pX9_at_104 _ _ h
def fX9_at (u : Mm) (a0 : Nat) (x1 : Int32) (x2 : Int32) : Option (Int32 × Mm) := oK u a0 9 54 (oU (wI u a0 (upd (mI u a0) 0 0)) (fun u1 => oB (fX9_isEight u1 x1) (fun v2 u3 => (if (v2 : Int32) = 0 then some ((-1000), u3) else (if (x2 : Int32) = 0 then oK u3 a0 9 54 (oNn (mR u3 a0 3) (fun e4 => oA u3 e4 10 ((7 : Int32) + x1) (oI (mI u3 e4 (Int32.toNatClampNeg ((7 : Int32) + x1))) (fun v5 => some (v5, u3))))) else (if (x2 : Int32) = 1 then bX9_at_70 u3 a0 x1 x2 else (if (x2 : Int32) = 2 then bX9_at_70 u3 a0 x1 x2 else (if (x2 : Int32) = 3 then bX9_at_79 u3 a0 x1 x2 else (if (x2 : Int32) = 4 then bX9_at_79 u3 a0 x1 x2 else (if (x2 : Int32) = 5 then bX9_at_88 u3 a0 x1 x2 else (if (x2 : Int32) = 6 then bX9_at_88 u3 a0 x1 x2 else some ((-1000), u3))))))))))))
set_option maxRecDepth 100000 in
set_option maxHeartbeats 4000000 in
theorem tX9_at {u : Mm} {a0 : Nat} {x1 : Int32} {x2 : Int32} {r : Int32} {u' : Mm} (h : fX9_at u a0 x1 x2 = some (r, u')) : Ev 5 MX9_at 0 0 [.ref a0, .int x1, .int x2] u (some (.int r), u') := by
  refine Ev.of (by decide +kernel) (Nat.le_of_ble_eq_true rfl) (show Eg MX9_at 5 0 0 (some (.int r), u') 0 [(0, .ref a0), (1, .int x1), (2, .int x2)] [] u from ?_)
  unfold fX9_at at h
  refine E_aload_n dX9_at_0 rfl rfl ?_
  refine E_iconst (v := 0) dX9_at_1 (by decide) ?_
  refine E_putI h dX9_at_2 cf9 lk_X9_134 (by decide) (Or.inl rfl) rfl (fun h => ?_)
  refine E_oU h (fun u1 h => ?_)
  refine E_iload_n dX9_at_5 rfl rfl ?_
  refine F_Si h (fun a m e => tX9_isEight e) dX9_at_6 hm_X9_isEight hs_X9_isEight ln_X9_171 rfl rfl (Nat.le_of_ble_eq_true rfl) (Nat.le_of_ble_eq_true rfl) (kc' := 0) (ks' := 0) rfl rfl (fun v2 u3 h => ?_)
  refine E_if_ne (tgt := 16) h dX9_at_9 (by decide) (fun h => ?_) (fun h => ?_)
  · refine E_iload_n dX9_at_16 rfl rfl ?_
    refine ite_cases h (fun c17_0 h => ?_) (fun c17_0 h => ?_)
    · refine E_tabIn (off := 43) (tgt := 60) dX9_at_17 c17_0 (by decide +kernel) (by decide +kernel) (by decide +kernel) (by decide) ?_
      refine E_aload_n dX9_at_60 rfl rfl ?_
      refine E_getA h dX9_at_61 cf9 lk_X9_13 (by decide) (fun _ _ _ => rfl) (fun e4 h => ?_)
      refine E_bipush (v := 7) dX9_at_64 (by decide) ?_
      refine E_iload_n dX9_at_66 rfl rfl ?_
      refine E_iadd dX9_at_67 ?_
      refine E_iald h dX9_at_68 (fun h => ?_)
      refine E_oI h (fun v5 h => ?_)
      exact E_iret h dX9_at_69 rfl
    · refine ite_cases h (fun c17_1 h => ?_) (fun c17_1 h => ?_)
      · refine E_tabIn (off := 53) (tgt := 70) dX9_at_17 c17_1 (by decide +kernel) (by decide +kernel) (by decide +kernel) (by decide) ?_
        refine Eg.pick [0, 1, 2] rfl ?_
        exact pX9_at_70 _ _ _ _ h
      · refine ite_cases h (fun c17_2 h => ?_) (fun c17_2 h => ?_)
        · refine E_tabIn (off := 53) (tgt := 70) dX9_at_17 c17_2 (by decide +kernel) (by decide +kernel) (by decide +kernel) (by decide) ?_
          refine Eg.pick [0, 1, 2] rfl ?_
          exact pX9_at_70 _ _ _ _ h
        · refine ite_cases h (fun c17_3 h => ?_) (fun c17_3 h => ?_)
          · refine E_tabIn (off := 62) (tgt := 79) dX9_at_17 c17_3 (by decide +kernel) (by decide +kernel) (by decide +kernel) (by decide) ?_
            refine Eg.pick [0, 1, 2] rfl ?_
            exact pX9_at_79 _ _ _ _ h
          · refine ite_cases h (fun c17_4 h => ?_) (fun c17_4 h => ?_)
            · refine E_tabIn (off := 62) (tgt := 79) dX9_at_17 c17_4 (by decide +kernel) (by decide +kernel) (by decide +kernel) (by decide) ?_
              refine Eg.pick [0, 1, 2] rfl ?_
              exact pX9_at_79 _ _ _ _ h
            · refine ite_cases h (fun c17_5 h => ?_) (fun c17_5 h => ?_)
              · refine E_tabIn (off := 71) (tgt := 88) dX9_at_17 c17_5 (by decide +kernel) (by decide +kernel) (by decide +kernel) (by decide) ?_
                refine Eg.pick [0, 1, 2] rfl ?_
                exact pX9_at_88 _ _ _ _ h
              · refine ite_cases h (fun c17_6 h => ?_) (fun c17_6 h => ?_)
                · refine E_tabIn (off := 71) (tgt := 88) dX9_at_17 c17_6 (by decide +kernel) (by decide +kernel) (by decide +kernel) (by decide) ?_
                  refine Eg.pick [0, 1, 2] rfl ?_
                  exact pX9_at_88 _ _ _ _ h
                · refine E_tabD (tgt := 105) [0, 1, 2, 3, 4, 5, 6] dX9_at_17 (by intro k hk; simp only [List.mem_cons, List.not_mem_nil, or_false] at hk; rcases hk with rfl | rfl | rfl | rfl | rfl | rfl | rfl <;> first | exact ne_lit (by decide +kernel) c17_0 | exact ne_lit (by decide +kernel) c17_1 | exact ne_lit (by decide +kernel) c17_2 | exact ne_lit (by decide +kernel) c17_3 | exact ne_lit (by decide +kernel) c17_4 | exact ne_lit (by decide +kernel) c17_5 | exact ne_lit (by decide +kernel) c17_6) (by decide +kernel) (by decide) ?_
                  refine E_sipush (v := (-1000)) dX9_at_105 (by decide) ?_
                  exact E_iret h dX9_at_108 rfl
  · refine E_sipush (v := (-1000)) dX9_at_12 (by decide) ?_
    exact E_iret h dX9_at_15 rfl
def fX9_feedsOf (u : Mm) (a0 : Nat) (x1 : Int32) : Option (Int32 × Mm) := oR u a0 9 (oB (fX9_allMen u a0 x1) (fun v1 u2 => oR u2 a0 9 (oB (fX9_tells u2 a0 2 x1 ((-1)) ((-1)) v1 3) (fun w3 u4 => oB (fX9_within u4 w3 0 99) (fun v5 u6 => some (v5, u6))))))
set_option maxRecDepth 100000 in
set_option maxHeartbeats 4000000 in
theorem tX9_feedsOf {u : Mm} {a0 : Nat} {x1 : Int32} {r : Int32} {u' : Mm} (h : fX9_feedsOf u a0 x1 = some (r, u')) : Ev 4 MX9_feedsOf 0 0 [.ref a0, .int x1] u (some (.int r), u') := by
  refine Ev.of (by decide +kernel) (Nat.le_of_ble_eq_true rfl) (show Eg MX9_feedsOf 4 0 0 (some (.int r), u') 0 [(0, .ref a0), (1, .int x1)] [] u from ?_)
  unfold fX9_feedsOf at h
  refine E_aload_n dX9_feedsOf_0 rfl rfl ?_
  refine E_iconst (v := 2) dX9_feedsOf_1 (by decide) ?_
  refine E_iload_n dX9_feedsOf_2 rfl rfl ?_
  refine E_iconst (v := (-1)) dX9_feedsOf_3 (by decide) ?_
  refine E_iconst (v := (-1)) dX9_feedsOf_4 (by decide) ?_
  refine E_aload_n dX9_feedsOf_5 rfl rfl ?_
  refine E_iload_n dX9_feedsOf_6 rfl rfl ?_
  refine F_Vi h (fun a m e => tX9_allMen e) dX9_feedsOf_7 hm_X9_allMen hv_X9_allMen ln_X9_189 rfl rfl (Nat.le_of_ble_eq_true rfl) (Nat.le_of_ble_eq_true rfl) (kc' := 0) (ks' := 0) rfl rfl (fun v1 u2 h => ?_)
  refine E_ldc2 dX9_feedsOf_10 rfl cn_X9_404 ?_
  refine F_Vl h (fun a m e => tX9_tells e) dX9_feedsOf_13 hm_X9_tells hv_X9_tells ln_X9_394 rfl rfl (Nat.le_of_ble_eq_true rfl) (Nat.le_of_ble_eq_true rfl) (kc' := 0) (ks' := 0) rfl rfl (fun w3 u4 h => ?_)
  refine E_iconst (v := 0) dX9_feedsOf_16 (by decide) ?_
  refine E_bipush (v := 99) dX9_feedsOf_17 (by decide) ?_
  refine F_Si h (fun a m e => tX9_within e) dX9_feedsOf_19 hm_X9_within hs_X9_within ln_X9_398 rfl rfl (Nat.le_of_ble_eq_true rfl) (Nat.le_of_ble_eq_true rfl) (kc' := 0) (ks' := 0) rfl rfl (fun v5 u6 h => ?_)
  exact E_iret h dX9_feedsOf_22 rfl
def fX9_of (u : Mm) (a0 : Nat) (x1 : Int32) (x2 : Int32) : Option (Int32 × Mm) := oK u a0 9 54 (oU (wI u a0 (upd (mI u a0) 0 0)) (fun u1 => oB (fX9_isSide u1 x1) (fun v2 u3 => (if (v2 : Int32) = 0 then some ((-1), u3) else (if (x2 : Int32) = 0 then oK u3 a0 9 54 (oNn (mR u3 a0 3) (fun e4 => oA u3 e4 10 ((31 : Int32) + x1) (oI (mI u3 e4 (Int32.toNatClampNeg ((31 : Int32) + x1))) (fun v5 => some (v5, u3))))) else (if (x2 : Int32) = 1 then oK u3 a0 9 54 (oNn (mR u3 a0 3) (fun e6 => oA u3 e6 10 ((33 : Int32) + x1) (oI (mI u3 e6 (Int32.toNatClampNeg ((33 : Int32) + x1))) (fun v7 => some (v7, u3))))) else (if (x2 : Int32) = 2 then oR u3 a0 9 (oB (fX9_feedsOf u3 a0 x1) (fun v8 u9 => some (v8, u9))) else (if (x2 : Int32) = 3 then oR u3 a0 9 (oB (fX9_allMen u3 a0 x1) (fun v10 u11 => some (v10, u11))) else some ((-1), u3)))))))))
set_option maxRecDepth 100000 in
set_option maxHeartbeats 4000000 in
theorem tX9_of {u : Mm} {a0 : Nat} {x1 : Int32} {x2 : Int32} {r : Int32} {u' : Mm} (h : fX9_of u a0 x1 x2 = some (r, u')) : Ev 5 MX9_of 0 0 [.ref a0, .int x1, .int x2] u (some (.int r), u') := by
  refine Ev.of (by decide +kernel) (Nat.le_of_ble_eq_true rfl) (show Eg MX9_of 5 0 0 (some (.int r), u') 0 [(0, .ref a0), (1, .int x1), (2, .int x2)] [] u from ?_)
  unfold fX9_of at h
  refine E_aload_n dX9_of_0 rfl rfl ?_
  refine E_iconst (v := 0) dX9_of_1 (by decide) ?_
  refine E_putI h dX9_of_2 cf9 lk_X9_134 (by decide) (Or.inl rfl) rfl (fun h => ?_)
  refine E_oU h (fun u1 h => ?_)
  refine E_iload_n dX9_of_5 rfl rfl ?_
  refine F_Si h (fun a m e => tX9_isSide e) dX9_of_6 hm_X9_isSide hs_X9_isSide ln_X9_167 rfl rfl (Nat.le_of_ble_eq_true rfl) (Nat.le_of_ble_eq_true rfl) (kc' := 0) (ks' := 0) rfl rfl (fun v2 u3 h => ?_)
  refine E_if_ne (tgt := 14) h dX9_of_9 (by decide) (fun h => ?_) (fun h => ?_)
  · refine E_iload_n dX9_of_14 rfl rfl ?_
    refine ite_cases h (fun c15_0 h => ?_) (fun c15_0 h => ?_)
    · refine E_tabIn (off := 29) (tgt := 44) dX9_of_15 c15_0 (by decide +kernel) (by decide +kernel) (by decide +kernel) (by decide) ?_
      refine E_aload_n dX9_of_44 rfl rfl ?_
      refine E_getA h dX9_of_45 cf9 lk_X9_13 (by decide) (fun _ _ _ => rfl) (fun e4 h => ?_)
      refine E_bipush (v := 31) dX9_of_48 (by decide) ?_
      refine E_iload_n dX9_of_50 rfl rfl ?_
      refine E_iadd dX9_of_51 ?_
      refine E_iald h dX9_of_52 (fun h => ?_)
      refine E_oI h (fun v5 h => ?_)
      exact E_iret h dX9_of_53 rfl
    · refine ite_cases h (fun c15_1 h => ?_) (fun c15_1 h => ?_)
      · refine E_tabIn (off := 39) (tgt := 54) dX9_of_15 c15_1 (by decide +kernel) (by decide +kernel) (by decide +kernel) (by decide) ?_
        refine E_aload_n dX9_of_54 rfl rfl ?_
        refine E_getA h dX9_of_55 cf9 lk_X9_13 (by decide) (fun _ _ _ => rfl) (fun e6 h => ?_)
        refine E_bipush (v := 33) dX9_of_58 (by decide) ?_
        refine E_iload_n dX9_of_60 rfl rfl ?_
        refine E_iadd dX9_of_61 ?_
        refine E_iald h dX9_of_62 (fun h => ?_)
        refine E_oI h (fun v7 h => ?_)
        exact E_iret h dX9_of_63 rfl
      · refine ite_cases h (fun c15_2 h => ?_) (fun c15_2 h => ?_)
        · refine E_tabIn (off := 49) (tgt := 64) dX9_of_15 c15_2 (by decide +kernel) (by decide +kernel) (by decide +kernel) (by decide) ?_
          refine E_aload_n dX9_of_64 rfl rfl ?_
          refine E_iload_n dX9_of_65 rfl rfl ?_
          refine F_Vi h (fun a m e => tX9_feedsOf e) dX9_of_66 hm_X9_feedsOf hv_X9_feedsOf ln_X9_186 rfl rfl (Nat.le_of_ble_eq_true rfl) (Nat.le_of_ble_eq_true rfl) (kc' := 0) (ks' := 0) rfl rfl (fun v8 u9 h => ?_)
          exact E_iret h dX9_of_69 rfl
        · refine ite_cases h (fun c15_3 h => ?_) (fun c15_3 h => ?_)
          · refine E_tabIn (off := 55) (tgt := 70) dX9_of_15 c15_3 (by decide +kernel) (by decide +kernel) (by decide +kernel) (by decide) ?_
            refine E_aload_n dX9_of_70 rfl rfl ?_
            refine E_iload_n dX9_of_71 rfl rfl ?_
            refine F_Vi h (fun a m e => tX9_allMen e) dX9_of_72 hm_X9_allMen hv_X9_allMen ln_X9_189 rfl rfl (Nat.le_of_ble_eq_true rfl) (Nat.le_of_ble_eq_true rfl) (kc' := 0) (ks' := 0) rfl rfl (fun v10 u11 h => ?_)
            exact E_iret h dX9_of_75 rfl
          · refine E_tabD (tgt := 76) [0, 1, 2, 3] dX9_of_15 (by intro k hk; simp only [List.mem_cons, List.not_mem_nil, or_false] at hk; rcases hk with rfl | rfl | rfl | rfl <;> first | exact ne_lit (by decide +kernel) c15_0 | exact ne_lit (by decide +kernel) c15_1 | exact ne_lit (by decide +kernel) c15_2 | exact ne_lit (by decide +kernel) c15_3) (by decide +kernel) (by decide) ?_
            refine E_iconst (v := (-1)) dX9_of_76 (by decide) ?_
            exact E_iret h dX9_of_77 rfl
  · refine E_iconst (v := (-1)) dX9_of_12 (by decide) ?_
    exact E_iret h dX9_of_13 rfl
def bX9_sign_70 (u : Mm) (a0 : Nat) : Option (Int32 × Mm) := oR u a0 9 (oB (fX9_answer u a0 ((-1))) (fun v4 u5 => some (v4, u5)))
set_option maxRecDepth 100000 in
set_option maxHeartbeats 4000000 in
theorem pX9_sign_70 {r : Int32} {u' : Mm} (u : Mm) (a0 : Nat) (h : bX9_sign_70 u a0 = some (r, u')) : Eg MX9_sign 2 0 0 (some (.int r), u') 70 [(0, .ref a0)] [] u := by
  unfold bX9_sign_70 at h
  refine E_aload_n dX9_sign_70 rfl rfl ?_
  refine E_iconst (v := (-1)) dX9_sign_71 (by decide) ?_
  refine F_Vi h (fun a m e => tX9_answer e) dX9_sign_72 hm_X9_answer hv_X9_answer ln_X9_143 rfl rfl (Nat.le_of_ble_eq_true rfl) (Nat.le_of_ble_eq_true rfl) (kc' := 0) (ks' := 0) rfl rfl (fun v4 u5 h => ?_)
  exact E_iret h dX9_sign_75 rfl
def bX9_sign_91 (u : Mm) (a0 : Nat) (x1 : Int32) (x2 : Int32) (x4 : Int32) (s0 : Int32) (s1 : Nat) : Option (Int32 × Mm) := oA u s1 10 ((s0 + ((2 : Int32) * x1)) + x2) (oU (wI u s1 (upd (mI u s1) (Int32.toNatClampNeg ((s0 + ((2 : Int32) * x1)) + x2)) x4)) (fun u9 => oR u9 a0 9 (oB (fX9_settled u9 a0 0) (fun v10 u11 => some (v10, u11)))))
set_option maxRecDepth 100000 in
set_option maxHeartbeats 4000000 in
theorem pX9_sign_91 {r : Int32} {u' : Mm} (u : Mm) (a0 : Nat) (x1 : Int32) (x2 : Int32) (x4 : Int32) (s0 : Int32) (s1 : Nat) (h : bX9_sign_91 u a0 x1 x2 x4 s0 s1 = some (r, u')) : Eg MX9_sign 2 0 0 (some (.int r), u') 91 [(0, .ref a0), (1, .int x1), (2, .int x2), (4, .int x4)] [.int s0, .ref s1] u := by
  unfold bX9_sign_91 at h
  refine E_iconst (v := 2) dX9_sign_91 (by decide) ?_
  refine E_iload_n dX9_sign_92 rfl rfl ?_
  refine E_imul dX9_sign_93 ?_
  refine E_iadd dX9_sign_94 ?_
  refine E_iload_n dX9_sign_95 rfl rfl ?_
  refine E_iadd dX9_sign_96 ?_
  refine E_iload dX9_sign_97 rfl ?_
  refine E_iast h dX9_sign_99 (fun h => ?_)
  refine E_oU h (fun u9 h => ?_)
  refine E_aload_n dX9_sign_100 rfl rfl ?_
  refine E_iconst (v := 0) dX9_sign_101 (by decide) ?_
  refine F_Vi h (fun a m e => tX9_settled e) dX9_sign_102 hm_X9_settled hv_X9_settled ln_X9_158 rfl rfl (Nat.le_of_ble_eq_true rfl) (Nat.le_of_ble_eq_true rfl) (kc' := 0) (ks' := 0) rfl rfl (fun v10 u11 h => ?_)
  exact E_iret h dX9_sign_105 rfl
def bX9_sign_49 (u : Mm) (a0 : Nat) (x1 : Int32) (x2 : Int32) (x3 : Int32) (x4 : Int32) (s0 : Int32) : Option (Int32 × Mm) := oB (fX9_isEight u x1) (fun v2 u3 => (if (v2 : Int32) = 0 then bX9_sign_70 u3 a0 else oB (fX9_isSide u3 x2) (fun v6 u7 => (if (v6 : Int32) = 0 then bX9_sign_70 u7 a0 else (if (s0 : Int32) = 0 then bX9_sign_70 u7 a0 else oK u7 a0 9 54 (oNn (mR u7 a0 3) (fun e8 => (if (x3 : Int32) = 0 then bX9_sign_91 u7 a0 x1 x2 x4 35 e8 else bX9_sign_91 u7 a0 x1 x2 x4 51 e8))))))))
set_option maxRecDepth 100000 in
set_option maxHeartbeats 4000000 in
theorem pX9_sign_49 {r : Int32} {u' : Mm} (u : Mm) (a0 : Nat) (x1 : Int32) (x2 : Int32) (x3 : Int32) (x4 : Int32) (s0 : Int32) (h : bX9_sign_49 u a0 x1 x2 x3 x4 s0 = some (r, u')) : Eg MX9_sign 2 0 0 (some (.int r), u') 49 [(0, .ref a0), (1, .int x1), (2, .int x2), (3, .int x3), (4, .int x4)] [.int s0] u := by
  unfold bX9_sign_49 at h
  refine E_istore (l' := [(5, .int s0), (0, .ref a0), (1, .int x1), (2, .int x2), (3, .int x3), (4, .int x4)]) dX9_sign_49 (Nat.le_of_ble_eq_true rfl) rfl ?_
  refine E_iload_n dX9_sign_51 rfl rfl ?_
  refine F_Si h (fun a m e => tX9_isEight e) dX9_sign_52 hm_X9_isEight hs_X9_isEight ln_X9_171 rfl rfl (Nat.le_of_ble_eq_true rfl) (Nat.le_of_ble_eq_true rfl) (kc' := 0) (ks' := 0) rfl rfl (fun v2 u3 h => ?_)
  refine E_if_eq (tgt := 70) h dX9_sign_55 (by decide) (fun h => ?_) (fun h => ?_)
  · refine Eg.pick [1] rfl ?_
    exact pX9_sign_70 _ _ h
  · refine E_iload_n dX9_sign_58 rfl rfl ?_
    refine F_Si h (fun a m e => tX9_isSide e) dX9_sign_59 hm_X9_isSide hs_X9_isSide ln_X9_167 rfl rfl (Nat.le_of_ble_eq_true rfl) (Nat.le_of_ble_eq_true rfl) (kc' := 0) (ks' := 0) rfl rfl (fun v6 u7 h => ?_)
    refine E_if_eq (tgt := 70) h dX9_sign_62 (by decide) (fun h => ?_) (fun h => ?_)
    · refine Eg.pick [1] rfl ?_
      exact pX9_sign_70 _ _ h
    · refine E_iload dX9_sign_65 rfl ?_
      refine E_if_ne (tgt := 76) h dX9_sign_67 (by decide) (fun h => ?_) (fun h => ?_)
      · refine E_aload_n dX9_sign_76 rfl rfl ?_
        refine E_getA h dX9_sign_77 cf9 lk_X9_13 (by decide) (fun _ _ _ => rfl) (fun e8 h => ?_)
        refine E_iload_n dX9_sign_80 rfl rfl ?_
        refine E_if_ne (tgt := 89) h dX9_sign_81 (by decide) (fun h => ?_) (fun h => ?_)
        · refine E_bipush (v := 51) dX9_sign_89 (by decide) ?_
          refine Eg.pick [1, 2, 3, 5] rfl ?_
          exact pX9_sign_91 _ _ _ _ _ _ _ h
        · refine E_bipush (v := 35) dX9_sign_84 (by decide) ?_
          refine E_goto (tgt := 91) dX9_sign_86 (by decide) ?_
          refine Eg.pick [1, 2, 3, 5] rfl ?_
          exact pX9_sign_91 _ _ _ _ _ _ _ h
      · refine Eg.pick [1] rfl ?_
        exact pX9_sign_70 _ _ h
def bX9_sign_48 (u : Mm) (a0 : Nat) (x1 : Int32) (x2 : Int32) (x3 : Int32) (x4 : Int32) : Option (Int32 × Mm) := bX9_sign_49 u a0 x1 x2 x3 x4 0
set_option maxRecDepth 100000 in
set_option maxHeartbeats 4000000 in
theorem pX9_sign_48 {r : Int32} {u' : Mm} (u : Mm) (a0 : Nat) (x1 : Int32) (x2 : Int32) (x3 : Int32) (x4 : Int32) (h : bX9_sign_48 u a0 x1 x2 x3 x4 = some (r, u')) : Eg MX9_sign 2 0 0 (some (.int r), u') 48 [(0, .ref a0), (1, .int x1), (2, .int x2), (3, .int x3), (4, .int x4)] [] u := by
  unfold bX9_sign_48 at h
  refine E_iconst (v := 0) dX9_sign_48 (by decide) ?_
  refine Eg.pick [0, 1, 2, 3, 4] rfl ?_
  exact pX9_sign_49 _ _ _ _ _ _ _ h
def fX9_sign (u : Mm) (a0 : Nat) (x1 : Int32) (x2 : Int32) (x3 : Int32) (x4 : Int32) : Option (Int32 × Mm) := oK u a0 9 54 (oU (wI u a0 (upd (mI u a0) 0 0)) (fun u1 => (if (x3 : Int32) = 0 then oB (fX9_in u1 (Int32.toInt64 x4) ((-20)) 20) (fun v14 u15 => bX9_sign_49 u15 a0 x1 x2 x3 x4 v14) else (if (x3 : Int32) = 1 then oB (fX9_in u1 (Int32.toInt64 x4) ((-1)) 7) (fun v12 u13 => (if (v12 : Int32) = 0 then bX9_sign_48 u13 a0 x1 x2 x3 x4 else bX9_sign_49 u13 a0 x1 x2 x3 x4 1)) else bX9_sign_48 u1 a0 x1 x2 x3 x4))))
set_option maxRecDepth 100000 in
set_option maxHeartbeats 4000000 in
theorem tX9_sign {u : Mm} {a0 : Nat} {x1 : Int32} {x2 : Int32} {x3 : Int32} {x4 : Int32} {r : Int32} {u' : Mm} (h : fX9_sign u a0 x1 x2 x3 x4 = some (r, u')) : Ev 2 MX9_sign 0 0 [.ref a0, .int x1, .int x2, .int x3, .int x4] u (some (.int r), u') := by
  refine Ev.of (by decide +kernel) (Nat.le_of_ble_eq_true rfl) (show Eg MX9_sign 2 0 0 (some (.int r), u') 0 [(0, .ref a0), (1, .int x1), (2, .int x2), (3, .int x3), (4, .int x4)] [] u from ?_)
  unfold fX9_sign at h
  refine E_aload_n dX9_sign_0 rfl rfl ?_
  refine E_iconst (v := 0) dX9_sign_1 (by decide) ?_
  refine E_putI h dX9_sign_2 cf9 lk_X9_134 (by decide) (Or.inl rfl) rfl (fun h => ?_)
  refine E_oU h (fun u1 h => ?_)
  refine E_iload_n dX9_sign_5 rfl rfl ?_
  refine E_if_ne (tgt := 24) h dX9_sign_6 (by decide) (fun h => ?_) (fun h => ?_)
  · refine E_iload_n dX9_sign_24 rfl rfl ?_
    refine E_iconst (v := 1) dX9_sign_25 (by decide) ?_
    refine E_ic_ne (tgt := 48) h dX9_sign_26 (by decide) (fun h => ?_) (fun h => ?_)
    · refine Eg.pick [0, 1, 2, 3, 4] rfl ?_
      exact pX9_sign_48 _ _ _ _ _ _ h
    · refine E_iload dX9_sign_29 rfl ?_
      refine E_i2l dX9_sign_31 ?_
      refine E_ldc2 dX9_sign_32 rfl cn_X9_196 ?_
      refine E_ldc2 dX9_sign_35 rfl cn_X9_161 ?_
      refine F_Si h (fun a m e => tX9_in e) dX9_sign_38 hm_X9_in hs_X9_in ln_X9_154 rfl rfl (Nat.le_of_ble_eq_true rfl) (Nat.le_of_ble_eq_true rfl) (kc' := 0) (ks' := 0) rfl rfl (fun v12 u13 h => ?_)
      refine E_if_eq (tgt := 48) h dX9_sign_41 (by decide) (fun h => ?_) (fun h => ?_)
      · refine Eg.pick [0, 1, 2, 3, 4] rfl ?_
        exact pX9_sign_48 _ _ _ _ _ _ h
      · refine E_iconst (v := 1) dX9_sign_44 (by decide) ?_
        refine E_goto (tgt := 49) dX9_sign_45 (by decide) ?_
        refine Eg.pick [0, 1, 2, 3, 4] rfl ?_
        exact pX9_sign_49 _ _ _ _ _ _ _ h
  · refine E_iload dX9_sign_9 rfl ?_
    refine E_i2l dX9_sign_11 ?_
    refine E_ldc2 dX9_sign_12 rfl cn_X9_192 ?_
    refine E_ldc2 dX9_sign_15 rfl cn_X9_194 ?_
    refine F_Si h (fun a m e => tX9_in e) dX9_sign_18 hm_X9_in hs_X9_in ln_X9_154 rfl rfl (Nat.le_of_ble_eq_true rfl) (Nat.le_of_ble_eq_true rfl) (kc' := 0) (ks' := 0) rfl rfl (fun v14 u15 h => ?_)
    refine E_goto (tgt := 49) dX9_sign_21 (by decide) ?_
    refine Eg.pick [0, 1, 2, 3, 4] rfl ?_
    exact pX9_sign_49 _ _ _ _ _ _ _ h
def fX9_readsOf (u : Mm) (a0 : Nat) (x1 : Int32) (x2 : Int32) : Option (Int32 × Mm) := oK u a0 9 54 (oNn (mR u a0 3) (fun e1 => oA u e1 10 (((35 : Int32) + ((2 : Int32) * x1)) + x2) (oI (mI u e1 (Int32.toNatClampNeg (((35 : Int32) + ((2 : Int32) * x1)) + x2))) (fun v2 => oR u a0 9 (oB (fX9_tells u a0 0 x2 ((-1)) x1 ((-1)) (Int32.toInt64 v2)) (fun w3 u4 => oB (fX9_within u4 w3 ((-20)) 20) (fun v5 u6 => some (v5, u6))))))))
set_option maxRecDepth 100000 in
set_option maxHeartbeats 4000000 in
theorem tX9_readsOf {u : Mm} {a0 : Nat} {x1 : Int32} {x2 : Int32} {r : Int32} {u' : Mm} (h : fX9_readsOf u a0 x1 x2 = some (r, u')) : Ev 4 MX9_readsOf 0 0 [.ref a0, .int x1, .int x2] u (some (.int r), u') := by
  refine Ev.of (by decide +kernel) (Nat.le_of_ble_eq_true rfl) (show Eg MX9_readsOf 4 0 0 (some (.int r), u') 0 [(0, .ref a0), (1, .int x1), (2, .int x2)] [] u from ?_)
  unfold fX9_readsOf at h
  refine E_aload_n dX9_readsOf_0 rfl rfl ?_
  refine E_iconst (v := 0) dX9_readsOf_1 (by decide) ?_
  refine E_iload_n dX9_readsOf_2 rfl rfl ?_
  refine E_iconst (v := (-1)) dX9_readsOf_3 (by decide) ?_
  refine E_iload_n dX9_readsOf_4 rfl rfl ?_
  refine E_iconst (v := (-1)) dX9_readsOf_5 (by decide) ?_
  refine E_aload_n dX9_readsOf_6 rfl rfl ?_
  refine E_getA h dX9_readsOf_7 cf9 lk_X9_13 (by decide) (fun _ _ _ => rfl) (fun e1 h => ?_)
  refine E_bipush (v := 35) dX9_readsOf_10 (by decide) ?_
  refine E_iconst (v := 2) dX9_readsOf_12 (by decide) ?_
  refine E_iload_n dX9_readsOf_13 rfl rfl ?_
  refine E_imul dX9_readsOf_14 ?_
  refine E_iadd dX9_readsOf_15 ?_
  refine E_iload_n dX9_readsOf_16 rfl rfl ?_
  refine E_iadd dX9_readsOf_17 ?_
  refine E_iald h dX9_readsOf_18 (fun h => ?_)
  refine E_oI h (fun v2 h => ?_)
  refine E_i2l dX9_readsOf_19 ?_
  refine F_Vl h (fun a m e => tX9_tells e) dX9_readsOf_20 hm_X9_tells hv_X9_tells ln_X9_394 rfl rfl (Nat.le_of_ble_eq_true rfl) (Nat.le_of_ble_eq_true rfl) (kc' := 0) (ks' := 0) rfl rfl (fun w3 u4 h => ?_)
  refine E_bipush (v := (-20)) dX9_readsOf_23 (by decide) ?_
  refine E_bipush (v := 20) dX9_readsOf_25 (by decide) ?_
  refine F_Si h (fun a m e => tX9_within e) dX9_readsOf_27 hm_X9_within hs_X9_within ln_X9_398 rfl rfl (Nat.le_of_ble_eq_true rfl) (Nat.le_of_ble_eq_true rfl) (kc' := 0) (ks' := 0) rfl rfl (fun v5 u6 h => ?_)
  exact E_iret h dX9_readsOf_30 rfl
def bX9_reads_59 (u : Mm) (s0 : Int32) : Option (Int32 × Mm) := some (s0, u)
set_option maxRecDepth 100000 in
set_option maxHeartbeats 4000000 in
theorem pX9_reads_59 {r : Int32} {u' : Mm} (u : Mm) (s0 : Int32) (h : bX9_reads_59 u s0 = some (r, u')) : Eg MX9_reads 5 0 0 (some (.int r), u') 59 [] [.int s0] u := by
  unfold bX9_reads_59 at h
  exact E_iret h dX9_reads_59 rfl
def fX9_reads (u : Mm) (a0 : Nat) (x1 : Int32) (x2 : Int32) (x3 : Int32) : Option (Int32 × Mm) := oK u a0 9 54 (oU (wI u a0 (upd (mI u a0) 0 0)) (fun u1 => oB (fX9_isEight u1 x1) (fun v2 u3 => (if (v2 : Int32) = 0 then some ((-1000), u3) else oB (fX9_isSide u3 x2) (fun v4 u5 => (if (v4 : Int32) = 0 then some ((-1000), u5) else oB (fX9_in u5 (Int32.toInt64 x3) 0 1) (fun v6 u7 => (if (v6 : Int32) = 0 then some ((-1000), u7) else (if (x3 : Int32) = 0 then oR u7 a0 9 (oB (fX9_readsOf u7 a0 x1 x2) (fun v10 u11 => bX9_reads_59 u11 v10)) else oK u7 a0 9 54 (oNn (mR u7 a0 3) (fun e8 => oA u7 e8 10 (((51 : Int32) + ((2 : Int32) * x1)) + x2) (oI (mI u7 e8 (Int32.toNatClampNeg (((51 : Int32) + ((2 : Int32) * x1)) + x2))) (fun v9 => bX9_reads_59 u7 v9)))))))))))))
set_option maxRecDepth 100000 in
set_option maxHeartbeats 4000000 in
theorem tX9_reads {u : Mm} {a0 : Nat} {x1 : Int32} {x2 : Int32} {x3 : Int32} {r : Int32} {u' : Mm} (h : fX9_reads u a0 x1 x2 x3 = some (r, u')) : Ev 5 MX9_reads 0 0 [.ref a0, .int x1, .int x2, .int x3] u (some (.int r), u') := by
  refine Ev.of (by decide +kernel) (Nat.le_of_ble_eq_true rfl) (show Eg MX9_reads 5 0 0 (some (.int r), u') 0 [(0, .ref a0), (1, .int x1), (2, .int x2), (3, .int x3)] [] u from ?_)
  unfold fX9_reads at h
  refine E_aload_n dX9_reads_0 rfl rfl ?_
  refine E_iconst (v := 0) dX9_reads_1 (by decide) ?_
  refine E_putI h dX9_reads_2 cf9 lk_X9_134 (by decide) (Or.inl rfl) rfl (fun h => ?_)
  refine E_oU h (fun u1 h => ?_)
  refine E_iload_n dX9_reads_5 rfl rfl ?_
  refine F_Si h (fun a m e => tX9_isEight e) dX9_reads_6 hm_X9_isEight hs_X9_isEight ln_X9_171 rfl rfl (Nat.le_of_ble_eq_true rfl) (Nat.le_of_ble_eq_true rfl) (kc' := 0) (ks' := 0) rfl rfl (fun v2 u3 h => ?_)
  refine E_if_eq (tgt := 29) h dX9_reads_9 (by decide) (fun h => ?_) (fun h => ?_)
  · refine E_sipush (v := (-1000)) dX9_reads_29 (by decide) ?_
    exact E_iret h dX9_reads_32 rfl
  · refine E_iload_n dX9_reads_12 rfl rfl ?_
    refine F_Si h (fun a m e => tX9_isSide e) dX9_reads_13 hm_X9_isSide hs_X9_isSide ln_X9_167 rfl rfl (Nat.le_of_ble_eq_true rfl) (Nat.le_of_ble_eq_true rfl) (kc' := 0) (ks' := 0) rfl rfl (fun v4 u5 h => ?_)
    refine E_if_eq (tgt := 29) h dX9_reads_16 (by decide) (fun h => ?_) (fun h => ?_)
    · refine E_sipush (v := (-1000)) dX9_reads_29 (by decide) ?_
      exact E_iret h dX9_reads_32 rfl
    · refine E_iload_n dX9_reads_19 rfl rfl ?_
      refine E_i2l dX9_reads_20 ?_
      refine E_lconst (v := 0) dX9_reads_21 (by decide) ?_
      refine E_lconst (v := 1) dX9_reads_22 (by decide) ?_
      refine F_Si h (fun a m e => tX9_in e) dX9_reads_23 hm_X9_in hs_X9_in ln_X9_154 rfl rfl (Nat.le_of_ble_eq_true rfl) (Nat.le_of_ble_eq_true rfl) (kc' := 0) (ks' := 0) rfl rfl (fun v6 u7 h => ?_)
      refine E_if_ne (tgt := 33) h dX9_reads_26 (by decide) (fun h => ?_) (fun h => ?_)
      · refine E_iload_n dX9_reads_33 rfl rfl ?_
        refine E_if_ne (tgt := 46) h dX9_reads_34 (by decide) (fun h => ?_) (fun h => ?_)
        · refine E_aload_n dX9_reads_46 rfl rfl ?_
          refine E_getA h dX9_reads_47 cf9 lk_X9_13 (by decide) (fun _ _ _ => rfl) (fun e8 h => ?_)
          refine E_bipush (v := 51) dX9_reads_50 (by decide) ?_
          refine E_iconst (v := 2) dX9_reads_52 (by decide) ?_
          refine E_iload_n dX9_reads_53 rfl rfl ?_
          refine E_imul dX9_reads_54 ?_
          refine E_iadd dX9_reads_55 ?_
          refine E_iload_n dX9_reads_56 rfl rfl ?_
          refine E_iadd dX9_reads_57 ?_
          refine E_iald h dX9_reads_58 (fun h => ?_)
          refine E_oI h (fun v9 h => ?_)
          refine Eg.pick [] rfl ?_
          exact pX9_reads_59 _ _ h
        · refine E_aload_n dX9_reads_37 rfl rfl ?_
          refine E_iload_n dX9_reads_38 rfl rfl ?_
          refine E_iload_n dX9_reads_39 rfl rfl ?_
          refine F_Vi h (fun a m e => tX9_readsOf e) dX9_reads_40 hm_X9_readsOf hv_X9_readsOf ln_X9_198 rfl rfl (Nat.le_of_ble_eq_true rfl) (Nat.le_of_ble_eq_true rfl) (kc' := 0) (ks' := 0) rfl rfl (fun v10 u11 h => ?_)
          refine E_goto (tgt := 59) dX9_reads_43 (by decide) ?_
          refine Eg.pick [] rfl ?_
          exact pX9_reads_59 _ _ h
      · refine E_sipush (v := (-1000)) dX9_reads_29 (by decide) ?_
        exact E_iret h dX9_reads_32 rfl
def bX9_word_68 (u : Mm) (a0 : Nat) : Option (Int32 × Mm) := oR u a0 9 (oB (fX9_answer u a0 ((-1))) (fun v4 u5 => some (v4, u5)))
set_option maxRecDepth 100000 in
set_option maxHeartbeats 4000000 in
theorem pX9_word_68 {r : Int32} {u' : Mm} (u : Mm) (a0 : Nat) (h : bX9_word_68 u a0 = some (r, u')) : Eg MX9_word 2 0 0 (some (.int r), u') 68 [(0, .ref a0)] [] u := by
  unfold bX9_word_68 at h
  refine E_aload_n dX9_word_68 rfl rfl ?_
  refine E_iconst (v := (-1)) dX9_word_69 (by decide) ?_
  refine F_Vi h (fun a m e => tX9_answer e) dX9_word_70 hm_X9_answer hv_X9_answer ln_X9_143 rfl rfl (Nat.le_of_ble_eq_true rfl) (Nat.le_of_ble_eq_true rfl) (kc' := 0) (ks' := 0) rfl rfl (fun v4 u5 h => ?_)
  exact E_iret h dX9_word_73 rfl
def bX9_word_89 (u : Mm) (a0 : Nat) (x1 : Int32) (x2 : Int32) (x4 : Int32) (s0 : Int32) (s1 : Nat) : Option (Int32 × Mm) := oA u s1 10 ((s0 + ((2 : Int32) * x1)) + x2) (oU (wI u s1 (upd (mI u s1) (Int32.toNatClampNeg ((s0 + ((2 : Int32) * x1)) + x2)) x4)) (fun u9 => oR u9 a0 9 (oB (fX9_answer u9 a0 0) (fun v10 u11 => some (v10, u11)))))
set_option maxRecDepth 100000 in
set_option maxHeartbeats 4000000 in
theorem pX9_word_89 {r : Int32} {u' : Mm} (u : Mm) (a0 : Nat) (x1 : Int32) (x2 : Int32) (x4 : Int32) (s0 : Int32) (s1 : Nat) (h : bX9_word_89 u a0 x1 x2 x4 s0 s1 = some (r, u')) : Eg MX9_word 2 0 0 (some (.int r), u') 89 [(0, .ref a0), (1, .int x1), (2, .int x2), (4, .int x4)] [.int s0, .ref s1] u := by
  unfold bX9_word_89 at h
  refine E_iconst (v := 2) dX9_word_89 (by decide) ?_
  refine E_iload_n dX9_word_90 rfl rfl ?_
  refine E_imul dX9_word_91 ?_
  refine E_iadd dX9_word_92 ?_
  refine E_iload_n dX9_word_93 rfl rfl ?_
  refine E_iadd dX9_word_94 ?_
  refine E_iload dX9_word_95 rfl ?_
  refine E_iast h dX9_word_97 (fun h => ?_)
  refine E_oU h (fun u9 h => ?_)
  refine E_aload_n dX9_word_98 rfl rfl ?_
  refine E_iconst (v := 0) dX9_word_99 (by decide) ?_
  refine F_Vi h (fun a m e => tX9_answer e) dX9_word_100 hm_X9_answer hv_X9_answer ln_X9_143 rfl rfl (Nat.le_of_ble_eq_true rfl) (Nat.le_of_ble_eq_true rfl) (kc' := 0) (ks' := 0) rfl rfl (fun v10 u11 h => ?_)
  exact E_iret h dX9_word_103 rfl
def bX9_word_47 (u : Mm) (a0 : Nat) (x1 : Int32) (x2 : Int32) (x3 : Int32) (x4 : Int32) (s0 : Int32) : Option (Int32 × Mm) := oB (fX9_isEight u x1) (fun v2 u3 => (if (v2 : Int32) = 0 then bX9_word_68 u3 a0 else oB (fX9_isSide u3 x2) (fun v6 u7 => (if (v6 : Int32) = 0 then bX9_word_68 u7 a0 else (if (s0 : Int32) = 0 then bX9_word_68 u7 a0 else oK u7 a0 9 54 (oNn (mR u7 a0 3) (fun e8 => (if (x3 : Int32) = 0 then bX9_word_89 u7 a0 x1 x2 x4 67 e8 else bX9_word_89 u7 a0 x1 x2 x4 83 e8))))))))
set_option maxRecDepth 100000 in
set_option maxHeartbeats 4000000 in
theorem pX9_word_47 {r : Int32} {u' : Mm} (u : Mm) (a0 : Nat) (x1 : Int32) (x2 : Int32) (x3 : Int32) (x4 : Int32) (s0 : Int32) (h : bX9_word_47 u a0 x1 x2 x3 x4 s0 = some (r, u')) : Eg MX9_word 2 0 0 (some (.int r), u') 47 [(0, .ref a0), (1, .int x1), (2, .int x2), (3, .int x3), (4, .int x4)] [.int s0] u := by
  unfold bX9_word_47 at h
  refine E_istore (l' := [(5, .int s0), (0, .ref a0), (1, .int x1), (2, .int x2), (3, .int x3), (4, .int x4)]) dX9_word_47 (Nat.le_of_ble_eq_true rfl) rfl ?_
  refine E_iload_n dX9_word_49 rfl rfl ?_
  refine F_Si h (fun a m e => tX9_isEight e) dX9_word_50 hm_X9_isEight hs_X9_isEight ln_X9_171 rfl rfl (Nat.le_of_ble_eq_true rfl) (Nat.le_of_ble_eq_true rfl) (kc' := 0) (ks' := 0) rfl rfl (fun v2 u3 h => ?_)
  refine E_if_eq (tgt := 68) h dX9_word_53 (by decide) (fun h => ?_) (fun h => ?_)
  · refine Eg.pick [1] rfl ?_
    exact pX9_word_68 _ _ h
  · refine E_iload_n dX9_word_56 rfl rfl ?_
    refine F_Si h (fun a m e => tX9_isSide e) dX9_word_57 hm_X9_isSide hs_X9_isSide ln_X9_167 rfl rfl (Nat.le_of_ble_eq_true rfl) (Nat.le_of_ble_eq_true rfl) (kc' := 0) (ks' := 0) rfl rfl (fun v6 u7 h => ?_)
    refine E_if_eq (tgt := 68) h dX9_word_60 (by decide) (fun h => ?_) (fun h => ?_)
    · refine Eg.pick [1] rfl ?_
      exact pX9_word_68 _ _ h
    · refine E_iload dX9_word_63 rfl ?_
      refine E_if_ne (tgt := 74) h dX9_word_65 (by decide) (fun h => ?_) (fun h => ?_)
      · refine E_aload_n dX9_word_74 rfl rfl ?_
        refine E_getA h dX9_word_75 cf9 lk_X9_13 (by decide) (fun _ _ _ => rfl) (fun e8 h => ?_)
        refine E_iload_n dX9_word_78 rfl rfl ?_
        refine E_if_ne (tgt := 87) h dX9_word_79 (by decide) (fun h => ?_) (fun h => ?_)
        · refine E_bipush (v := 83) dX9_word_87 (by decide) ?_
          refine Eg.pick [1, 2, 3, 5] rfl ?_
          exact pX9_word_89 _ _ _ _ _ _ _ h
        · refine E_bipush (v := 67) dX9_word_82 (by decide) ?_
          refine E_goto (tgt := 89) dX9_word_84 (by decide) ?_
          refine Eg.pick [1, 2, 3, 5] rfl ?_
          exact pX9_word_89 _ _ _ _ _ _ _ h
      · refine Eg.pick [1] rfl ?_
        exact pX9_word_68 _ _ h
def bX9_word_46 (u : Mm) (a0 : Nat) (x1 : Int32) (x2 : Int32) (x3 : Int32) (x4 : Int32) : Option (Int32 × Mm) := bX9_word_47 u a0 x1 x2 x3 x4 0
set_option maxRecDepth 100000 in
set_option maxHeartbeats 4000000 in
theorem pX9_word_46 {r : Int32} {u' : Mm} (u : Mm) (a0 : Nat) (x1 : Int32) (x2 : Int32) (x3 : Int32) (x4 : Int32) (h : bX9_word_46 u a0 x1 x2 x3 x4 = some (r, u')) : Eg MX9_word 2 0 0 (some (.int r), u') 46 [(0, .ref a0), (1, .int x1), (2, .int x2), (3, .int x3), (4, .int x4)] [] u := by
  unfold bX9_word_46 at h
  refine E_iconst (v := 0) dX9_word_46 (by decide) ?_
  refine Eg.pick [0, 1, 2, 3, 4] rfl ?_
  exact pX9_word_47 _ _ _ _ _ _ _ h
def fX9_word (u : Mm) (a0 : Nat) (x1 : Int32) (x2 : Int32) (x3 : Int32) (x4 : Int32) : Option (Int32 × Mm) := oK u a0 9 54 (oU (wI u a0 (upd (mI u a0) 0 0)) (fun u1 => (if (x3 : Int32) = 0 then oB (fX9_in u1 (Int32.toInt64 x4) ((-9)) 9) (fun v14 u15 => bX9_word_47 u15 a0 x1 x2 x3 x4 v14) else (if (x3 : Int32) = 1 then oB (fX9_in u1 (Int32.toInt64 x4) 0 10) (fun v12 u13 => (if (v12 : Int32) = 0 then bX9_word_46 u13 a0 x1 x2 x3 x4 else bX9_word_47 u13 a0 x1 x2 x3 x4 1)) else bX9_word_46 u1 a0 x1 x2 x3 x4))))
set_option maxRecDepth 100000 in
set_option maxHeartbeats 4000000 in
theorem tX9_word {u : Mm} {a0 : Nat} {x1 : Int32} {x2 : Int32} {x3 : Int32} {x4 : Int32} {r : Int32} {u' : Mm} (h : fX9_word u a0 x1 x2 x3 x4 = some (r, u')) : Ev 2 MX9_word 0 0 [.ref a0, .int x1, .int x2, .int x3, .int x4] u (some (.int r), u') := by
  refine Ev.of (by decide +kernel) (Nat.le_of_ble_eq_true rfl) (show Eg MX9_word 2 0 0 (some (.int r), u') 0 [(0, .ref a0), (1, .int x1), (2, .int x2), (3, .int x3), (4, .int x4)] [] u from ?_)
  unfold fX9_word at h
  refine E_aload_n dX9_word_0 rfl rfl ?_
  refine E_iconst (v := 0) dX9_word_1 (by decide) ?_
  refine E_putI h dX9_word_2 cf9 lk_X9_134 (by decide) (Or.inl rfl) rfl (fun h => ?_)
  refine E_oU h (fun u1 h => ?_)
  refine E_iload_n dX9_word_5 rfl rfl ?_
  refine E_if_ne (tgt := 24) h dX9_word_6 (by decide) (fun h => ?_) (fun h => ?_)
  · refine E_iload_n dX9_word_24 rfl rfl ?_
    refine E_iconst (v := 1) dX9_word_25 (by decide) ?_
    refine E_ic_ne (tgt := 46) h dX9_word_26 (by decide) (fun h => ?_) (fun h => ?_)
    · refine Eg.pick [0, 1, 2, 3, 4] rfl ?_
      exact pX9_word_46 _ _ _ _ _ _ h
    · refine E_iload dX9_word_29 rfl ?_
      refine E_i2l dX9_word_31 ?_
      refine E_lconst (v := 0) dX9_word_32 (by decide) ?_
      refine E_ldc2 dX9_word_33 rfl cn_X9_205 ?_
      refine F_Si h (fun a m e => tX9_in e) dX9_word_36 hm_X9_in hs_X9_in ln_X9_154 rfl rfl (Nat.le_of_ble_eq_true rfl) (Nat.le_of_ble_eq_true rfl) (kc' := 0) (ks' := 0) rfl rfl (fun v12 u13 h => ?_)
      refine E_if_eq (tgt := 46) h dX9_word_39 (by decide) (fun h => ?_) (fun h => ?_)
      · refine Eg.pick [0, 1, 2, 3, 4] rfl ?_
        exact pX9_word_46 _ _ _ _ _ _ h
      · refine E_iconst (v := 1) dX9_word_42 (by decide) ?_
        refine E_goto (tgt := 47) dX9_word_43 (by decide) ?_
        refine Eg.pick [0, 1, 2, 3, 4] rfl ?_
        exact pX9_word_47 _ _ _ _ _ _ _ h
  · refine E_iload dX9_word_9 rfl ?_
    refine E_i2l dX9_word_11 ?_
    refine E_ldc2 dX9_word_12 rfl cn_X9_201 ?_
    refine E_ldc2 dX9_word_15 rfl cn_X9_203 ?_
    refine F_Si h (fun a m e => tX9_in e) dX9_word_18 hm_X9_in hs_X9_in ln_X9_154 rfl rfl (Nat.le_of_ble_eq_true rfl) (Nat.le_of_ble_eq_true rfl) (kc' := 0) (ks' := 0) rfl rfl (fun v14 u15 h => ?_)
    refine E_goto (tgt := 47) dX9_word_21 (by decide) ?_
    refine Eg.pick [0, 1, 2, 3, 4] rfl ?_
    exact pX9_word_47 _ _ _ _ _ _ _ h
def bX9_terms_60 (u : Mm) (a0 : Nat) (x1 : Int32) (x2 : Int32) (s0 : Int32) : Option (Int32 × Mm) := (if (s0 : Int32) = 0 then oR u a0 9 (oB (fX9_answer u a0 ((-1))) (fun v5 u6 => some (v5, u6))) else oK u a0 9 54 (oU (wI u a0 (upd (mI u a0) 8 0)) (fun u2 => oR u2 a0 9 (oB (fX9_change u2 a0 ((4 : Int32) + x1) x2) (fun v3 u4 => some (v3, u4))))))
set_option maxRecDepth 100000 in
set_option maxHeartbeats 4000000 in
theorem pX9_terms_60 {r : Int32} {u' : Mm} (u : Mm) (a0 : Nat) (x1 : Int32) (x2 : Int32) (s0 : Int32) (h : bX9_terms_60 u a0 x1 x2 s0 = some (r, u')) : Eg MX9_terms 1 0 0 (some (.int r), u') 60 [(0, .ref a0), (1, .int x1), (2, .int x2)] [.int s0] u := by
  unfold bX9_terms_60 at h
  refine E_istore_n (l' := [(3, .int s0), (0, .ref a0), (1, .int x1), (2, .int x2)]) dX9_terms_60 rfl (Nat.le_of_ble_eq_true rfl) rfl ?_
  refine E_iload_n dX9_terms_61 rfl rfl ?_
  refine E_if_ne (tgt := 71) h dX9_terms_62 (by decide) (fun h => ?_) (fun h => ?_)
  · refine E_aload_n dX9_terms_71 rfl rfl ?_
    refine E_iconst (v := 0) dX9_terms_72 (by decide) ?_
    refine E_putI h dX9_terms_73 cf9 lk_X9_140 (by decide) (Or.inl rfl) rfl (fun h => ?_)
    refine E_oU h (fun u2 h => ?_)
    refine E_aload_n dX9_terms_76 rfl rfl ?_
    refine E_iconst (v := 4) dX9_terms_77 (by decide) ?_
    refine E_iload_n dX9_terms_78 rfl rfl ?_
    refine E_iadd dX9_terms_79 ?_
    refine E_iload_n dX9_terms_80 rfl rfl ?_
    refine F_Vi h (fun a m e => tX9_change e) dX9_terms_81 hm_X9_change hv_X9_change ln_X9_176 rfl rfl (Nat.le_of_ble_eq_true rfl) (Nat.le_of_ble_eq_true rfl) (kc' := 0) (ks' := 0) rfl rfl (fun v3 u4 h => ?_)
    exact E_iret h dX9_terms_84 rfl
  · refine E_aload_n dX9_terms_65 rfl rfl ?_
    refine E_iconst (v := (-1)) dX9_terms_66 (by decide) ?_
    refine F_Vi h (fun a m e => tX9_answer e) dX9_terms_67 hm_X9_answer hv_X9_answer ln_X9_143 rfl rfl (Nat.le_of_ble_eq_true rfl) (Nat.le_of_ble_eq_true rfl) (kc' := 0) (ks' := 0) rfl rfl (fun v5 u6 h => ?_)
    exact E_iret h dX9_terms_70 rfl
def bX9_terms_59 (u : Mm) (a0 : Nat) (x1 : Int32) (x2 : Int32) : Option (Int32 × Mm) := bX9_terms_60 u a0 x1 x2 0
set_option maxRecDepth 100000 in
set_option maxHeartbeats 4000000 in
theorem pX9_terms_59 {r : Int32} {u' : Mm} (u : Mm) (a0 : Nat) (x1 : Int32) (x2 : Int32) (h : bX9_terms_59 u a0 x1 x2 = some (r, u')) : Eg MX9_terms 1 0 0 (some (.int r), u') 59 [(0, .ref a0), (1, .int x1), (2, .int x2)] [] u := by
  unfold bX9_terms_59 at h
  refine E_iconst (v := 0) dX9_terms_59 (by decide) ?_
  refine Eg.pick [0, 1, 2] rfl ?_
  exact pX9_terms_60 _ _ _ _ _ h
def fX9_terms (u : Mm) (a0 : Nat) (x1 : Int32) (x2 : Int32) : Option (Int32 × Mm) := oK u a0 9 54 (oU (wI u a0 (upd (mI u a0) 0 0)) (fun u1 => (if (x1 : Int32) = 0 then oB (fX9_in u1 (Int32.toInt64 x2) 0 999) (fun v11 u12 => bX9_terms_60 u12 a0 x1 x2 v11) else (if (x1 : Int32) = 1 then oB (fX9_in u1 (Int32.toInt64 x2) 1 40) (fun v9 u10 => bX9_terms_60 u10 a0 x1 x2 v9) else (if (x1 : Int32) = 2 then oB (fX9_in u1 (Int32.toInt64 x2) 0 9) (fun v7 u8 => (if (v7 : Int32) = 0 then bX9_terms_59 u8 a0 x1 x2 else bX9_terms_60 u8 a0 x1 x2 1)) else bX9_terms_59 u1 a0 x1 x2)))))
set_option maxRecDepth 100000 in
set_option maxHeartbeats 4000000 in
theorem tX9_terms {u : Mm} {a0 : Nat} {x1 : Int32} {x2 : Int32} {r : Int32} {u' : Mm} (h : fX9_terms u a0 x1 x2 = some (r, u')) : Ev 1 MX9_terms 0 0 [.ref a0, .int x1, .int x2] u (some (.int r), u') := by
  refine Ev.of (by decide +kernel) (Nat.le_of_ble_eq_true rfl) (show Eg MX9_terms 1 0 0 (some (.int r), u') 0 [(0, .ref a0), (1, .int x1), (2, .int x2)] [] u from ?_)
  unfold fX9_terms at h
  refine E_aload_n dX9_terms_0 rfl rfl ?_
  refine E_iconst (v := 0) dX9_terms_1 (by decide) ?_
  refine E_putI h dX9_terms_2 cf9 lk_X9_134 (by decide) (Or.inl rfl) rfl (fun h => ?_)
  refine E_oU h (fun u1 h => ?_)
  refine E_iload_n dX9_terms_5 rfl rfl ?_
  refine E_if_ne (tgt := 21) h dX9_terms_6 (by decide) (fun h => ?_) (fun h => ?_)
  · refine E_iload_n dX9_terms_21 rfl rfl ?_
    refine E_iconst (v := 1) dX9_terms_22 (by decide) ?_
    refine E_ic_ne (tgt := 38) h dX9_terms_23 (by decide) (fun h => ?_) (fun h => ?_)
    · refine E_iload_n dX9_terms_38 rfl rfl ?_
      refine E_iconst (v := 2) dX9_terms_39 (by decide) ?_
      refine E_ic_ne (tgt := 59) h dX9_terms_40 (by decide) (fun h => ?_) (fun h => ?_)
      · refine Eg.pick [0, 1, 2] rfl ?_
        exact pX9_terms_59 _ _ _ _ h
      · refine E_iload_n dX9_terms_43 rfl rfl ?_
        refine E_i2l dX9_terms_44 ?_
        refine E_lconst (v := 0) dX9_terms_45 (by decide) ?_
        refine E_ldc2 dX9_terms_46 rfl cn_X9_203 ?_
        refine F_Si h (fun a m e => tX9_in e) dX9_terms_49 hm_X9_in hs_X9_in ln_X9_154 rfl rfl (Nat.le_of_ble_eq_true rfl) (Nat.le_of_ble_eq_true rfl) (kc' := 0) (ks' := 0) rfl rfl (fun v7 u8 h => ?_)
        refine E_if_eq (tgt := 59) h dX9_terms_52 (by decide) (fun h => ?_) (fun h => ?_)
        · refine Eg.pick [0, 1, 2] rfl ?_
          exact pX9_terms_59 _ _ _ _ h
        · refine E_iconst (v := 1) dX9_terms_55 (by decide) ?_
          refine E_goto (tgt := 60) dX9_terms_56 (by decide) ?_
          refine Eg.pick [0, 1, 2] rfl ?_
          exact pX9_terms_60 _ _ _ _ _ h
    · refine E_iload_n dX9_terms_26 rfl rfl ?_
      refine E_i2l dX9_terms_27 ?_
      refine E_lconst (v := 1) dX9_terms_28 (by decide) ?_
      refine E_ldc2 dX9_terms_29 rfl cn_X9_209 ?_
      refine F_Si h (fun a m e => tX9_in e) dX9_terms_32 hm_X9_in hs_X9_in ln_X9_154 rfl rfl (Nat.le_of_ble_eq_true rfl) (Nat.le_of_ble_eq_true rfl) (kc' := 0) (ks' := 0) rfl rfl (fun v9 u10 h => ?_)
      refine E_goto (tgt := 60) dX9_terms_35 (by decide) ?_
      refine Eg.pick [0, 1, 2] rfl ?_
      exact pX9_terms_60 _ _ _ _ _ h
  · refine E_iload_n dX9_terms_9 rfl rfl ?_
    refine E_i2l dX9_terms_10 ?_
    refine E_lconst (v := 0) dX9_terms_11 (by decide) ?_
    refine E_ldc2 dX9_terms_12 rfl cn_X9_207 ?_
    refine F_Si h (fun a m e => tX9_in e) dX9_terms_15 hm_X9_in hs_X9_in ln_X9_154 rfl rfl (Nat.le_of_ble_eq_true rfl) (Nat.le_of_ble_eq_true rfl) (kc' := 0) (ks' := 0) rfl rfl (fun v11 u12 h => ?_)
    refine E_goto (tgt := 60) dX9_terms_18 (by decide) ?_
    refine Eg.pick [0, 1, 2] rfl ?_
    exact pX9_terms_60 _ _ _ _ _ h
def bX9_row_142 (k35 : Mm → Nat → Int32 → Int32 → Int32 → Option (Int32 × Mm)) (u : Mm) (a0 : Nat) (x1 : Int32) (x2 : Int32) (x3 : Int32) : Option (Int32 × Mm) := k35 u a0 x1 x2 (x3 + 3)
set_option maxRecDepth 100000 in
set_option maxHeartbeats 4000000 in
theorem pX9_row_142 {r : Int32} {u' : Mm} {k35 : Mm → Nat → Int32 → Int32 → Int32 → Option (Int32 × Mm)} (hk35 : ∀ (u : Mm) (a0 : Nat) (x1 : Int32) (x2 : Int32) (x3 : Int32), k35 u a0 x1 x2 x3 = some (r, u') → Eg MX9_row 2 0 0 (some (.int r), u') 35 [(0, .ref a0), (1, .int x1), (2, .int x2), (3, .int x3)] [] u) (u : Mm) (a0 : Nat) (x1 : Int32) (x2 : Int32) (x3 : Int32) (h : bX9_row_142 k35 u a0 x1 x2 x3 = some (r, u')) : Eg MX9_row 2 0 0 (some (.int r), u') 142 [(0, .ref a0), (1, .int x1), (2, .int x2), (3, .int x3)] [] u := by
  unfold bX9_row_142 at h
  refine E_iinc (j := 3) (v := x3 + 3) (l' := [(3, .int (x3 + 3)), (0, .ref a0), (1, .int x1), (2, .int x2)]) dX9_row_142 rfl (addI (by decide)) (Nat.le_of_ble_eq_true rfl) rfl ?_
  refine E_goto (tgt := 35) dX9_row_145 (by decide) ?_
  refine Eg.pick [1, 2, 3, 0] rfl ?_
  exact hk35 _ _ _ _ _ h
def bX9_row_132 (k35 : Mm → Nat → Int32 → Int32 → Int32 → Option (Int32 × Mm)) (u : Mm) (a0 : Nat) (x1 : Int32) (x2 : Int32) (x3 : Int32) : Option (Int32 × Mm) := oK u a0 9 54 (oI (mI u a0 11) (fun v7 => oK u a0 9 54 (oU (wI u a0 (upd (mI u a0) 11 (v7 + 1))) (fun u8 => bX9_row_142 k35 u8 a0 x1 x2 x3))))
set_option maxRecDepth 100000 in
set_option maxHeartbeats 4000000 in
theorem pX9_row_132 {r : Int32} {u' : Mm} {k35 : Mm → Nat → Int32 → Int32 → Int32 → Option (Int32 × Mm)} (hk35 : ∀ (u : Mm) (a0 : Nat) (x1 : Int32) (x2 : Int32) (x3 : Int32), k35 u a0 x1 x2 x3 = some (r, u') → Eg MX9_row 2 0 0 (some (.int r), u') 35 [(0, .ref a0), (1, .int x1), (2, .int x2), (3, .int x3)] [] u) (u : Mm) (a0 : Nat) (x1 : Int32) (x2 : Int32) (x3 : Int32) (h : bX9_row_132 k35 u a0 x1 x2 x3 = some (r, u')) : Eg MX9_row 2 0 0 (some (.int r), u') 132 [(0, .ref a0), (1, .int x1), (2, .int x2), (3, .int x3)] [] u := by
  unfold bX9_row_132 at h
  refine E_aload_n dX9_row_132 rfl rfl ?_
  refine E_dup dX9_row_133 rfl ?_
  refine E_getI h dX9_row_134 cf9 lk_X9_214 (by decide) (fun _ _ _ => rfl) (fun h => ?_)
  refine E_oI h (fun v7 h => ?_)
  refine E_iconst (v := 1) dX9_row_137 (by decide) ?_
  refine E_iadd dX9_row_138 ?_
  refine E_putI h dX9_row_139 cf9 lk_X9_214 (by decide) (Or.inl rfl) rfl (fun h => ?_)
  refine E_oU h (fun u8 h => ?_)
  refine Eg.pick [0, 1, 2, 3] rfl ?_
  exact pX9_row_142 hk35 _ _ _ _ _ h
def bX9_row_35 (k35 : Mm → Nat → Int32 → Int32 → Int32 → Option (Int32 × Mm)) (u : Mm) (a0 : Nat) (x1 : Int32) (x2 : Int32) (x3 : Int32) : Option (Int32 × Mm) := (if (x1 : Int32) ≤ x3 then oR u a0 9 (oB (fX9_settled u a0 x2) (fun v5 u6 => some (v5, u6))) else (if (x1 : Int32) ≤ (x3 + 2) then bX9_row_132 k35 u a0 x1 x2 x3 else oK u a0 9 54 (oNn (mR u a0 12) (fun e9 => oA u e9 10 x3 (oI (mI u e9 (Int32.toNatClampNeg x3)) (fun v10 => oB (fX9_isSide u v10) (fun v11 u12 => (if (v11 : Int32) = 0 then bX9_row_132 k35 u12 a0 x1 x2 x3 else oK u12 a0 9 54 (oNn (mR u12 a0 12) (fun e13 => oA u12 e13 10 (x3 + 1) (oI (mI u12 e13 (Int32.toNatClampNeg (x3 + 1))) (fun v14 => oB (fX9_isEight u12 v14) (fun v15 u16 => (if (v15 : Int32) = 0 then bX9_row_132 k35 u16 a0 x1 x2 x3 else oK u16 a0 9 54 (oNn (mR u16 a0 12) (fun e17 => oA u16 e17 10 (x3 + 2) (oI (mI u16 e17 (Int32.toNatClampNeg (x3 + 2))) (fun v18 => oB (fX9_in u16 (Int32.toInt64 v18) 0 99) (fun v19 u20 => (if (v19 : Int32) = 0 then bX9_row_132 k35 u20 a0 x1 x2 x3 else oK u20 a0 9 54 (oNn (mR u20 a0 3) (fun e21 => oK u20 a0 9 54 (oNn (mR u20 a0 12) (fun e22 => oA u20 e22 10 x3 (oI (mI u20 e22 (Int32.toNatClampNeg x3)) (fun v23 => oK u20 a0 9 54 (oNn (mR u20 a0 12) (fun e24 => oA u20 e24 10 (x3 + 1) (oI (mI u20 e24 (Int32.toNatClampNeg (x3 + 1))) (fun v25 => oK u20 a0 9 54 (oNn (mR u20 a0 12) (fun e26 => oA u20 e26 10 (x3 + 2) (oI (mI u20 e26 (Int32.toNatClampNeg (x3 + 2))) (fun v27 => oA u20 e21 10 (((15 : Int32) + ((8 : Int32) * v23)) + v25) (oU (wI u20 e21 (upd (mI u20 e21) (Int32.toNatClampNeg (((15 : Int32) + ((8 : Int32) * v23)) + v25)) v27)) (fun u28 => bX9_row_142 k35 u28 a0 x1 (x2 + 1) x3))))))))))))))))))))))))))))))))))))
set_option maxRecDepth 100000 in
set_option maxHeartbeats 4000000 in
theorem pX9_row_35 {r : Int32} {u' : Mm} {k35 : Mm → Nat → Int32 → Int32 → Int32 → Option (Int32 × Mm)} (hk35 : ∀ (u : Mm) (a0 : Nat) (x1 : Int32) (x2 : Int32) (x3 : Int32), k35 u a0 x1 x2 x3 = some (r, u') → Eg MX9_row 2 0 0 (some (.int r), u') 35 [(0, .ref a0), (1, .int x1), (2, .int x2), (3, .int x3)] [] u) (u : Mm) (a0 : Nat) (x1 : Int32) (x2 : Int32) (x3 : Int32) (h : bX9_row_35 k35 u a0 x1 x2 x3 = some (r, u')) : Eg MX9_row 2 0 0 (some (.int r), u') 35 [(0, .ref a0), (1, .int x1), (2, .int x2), (3, .int x3)] [] u := by
  unfold bX9_row_35 at h
  refine E_iload_n dX9_row_35 rfl rfl ?_
  refine E_iload_n dX9_row_36 rfl rfl ?_
  refine E_ic_ge (tgt := 148) h dX9_row_37 (by decide) (fun h => ?_) (fun h => ?_)
  · refine E_aload_n dX9_row_148 rfl rfl ?_
    refine E_iload_n dX9_row_149 rfl rfl ?_
    refine F_Vi h (fun a m e => tX9_settled e) dX9_row_150 hm_X9_settled hv_X9_settled ln_X9_158 rfl rfl (Nat.le_of_ble_eq_true rfl) (Nat.le_of_ble_eq_true rfl) (kc' := 0) (ks' := 0) rfl rfl (fun v5 u6 h => ?_)
    exact E_iret h dX9_row_153 rfl
  · refine E_iload_n dX9_row_40 rfl rfl ?_
    refine E_iconst (v := 2) dX9_row_41 (by decide) ?_
    refine E_iadd dX9_row_42 ?_
    refine E_iload_n dX9_row_43 rfl rfl ?_
    refine E_ic_ge (tgt := 132) h dX9_row_44 (by decide) (fun h => ?_) (fun h => ?_)
    · refine Eg.pick [0, 1, 2, 3] rfl ?_
      exact pX9_row_132 hk35 _ _ _ _ _ h
    · refine E_aload_n dX9_row_47 rfl rfl ?_
      refine E_getA h dX9_row_48 cf9 lk_X9_35 (by decide) (fun _ _ _ => rfl) (fun e9 h => ?_)
      refine E_iload_n dX9_row_51 rfl rfl ?_
      refine E_iald h dX9_row_52 (fun h => ?_)
      refine E_oI h (fun v10 h => ?_)
      refine F_Si h (fun a m e => tX9_isSide e) dX9_row_53 hm_X9_isSide hs_X9_isSide ln_X9_167 rfl rfl (Nat.le_of_ble_eq_true rfl) (Nat.le_of_ble_eq_true rfl) (kc' := 0) (ks' := 0) rfl rfl (fun v11 u12 h => ?_)
      refine E_if_eq (tgt := 132) h dX9_row_56 (by decide) (fun h => ?_) (fun h => ?_)
      · refine Eg.pick [0, 1, 2, 3] rfl ?_
        exact pX9_row_132 hk35 _ _ _ _ _ h
      · refine E_aload_n dX9_row_59 rfl rfl ?_
        refine E_getA h dX9_row_60 cf9 lk_X9_35 (by decide) (fun _ _ _ => rfl) (fun e13 h => ?_)
        refine E_iload_n dX9_row_63 rfl rfl ?_
        refine E_iconst (v := 1) dX9_row_64 (by decide) ?_
        refine E_iadd dX9_row_65 ?_
        refine E_iald h dX9_row_66 (fun h => ?_)
        refine E_oI h (fun v14 h => ?_)
        refine F_Si h (fun a m e => tX9_isEight e) dX9_row_67 hm_X9_isEight hs_X9_isEight ln_X9_171 rfl rfl (Nat.le_of_ble_eq_true rfl) (Nat.le_of_ble_eq_true rfl) (kc' := 0) (ks' := 0) rfl rfl (fun v15 u16 h => ?_)
        refine E_if_eq (tgt := 132) h dX9_row_70 (by decide) (fun h => ?_) (fun h => ?_)
        · refine Eg.pick [0, 1, 2, 3] rfl ?_
          exact pX9_row_132 hk35 _ _ _ _ _ h
        · refine E_aload_n dX9_row_73 rfl rfl ?_
          refine E_getA h dX9_row_74 cf9 lk_X9_35 (by decide) (fun _ _ _ => rfl) (fun e17 h => ?_)
          refine E_iload_n dX9_row_77 rfl rfl ?_
          refine E_iconst (v := 2) dX9_row_78 (by decide) ?_
          refine E_iadd dX9_row_79 ?_
          refine E_iald h dX9_row_80 (fun h => ?_)
          refine E_oI h (fun v18 h => ?_)
          refine E_i2l dX9_row_81 ?_
          refine E_lconst (v := 0) dX9_row_82 (by decide) ?_
          refine E_ldc2 dX9_row_83 rfl cn_X9_174 ?_
          refine F_Si h (fun a m e => tX9_in e) dX9_row_86 hm_X9_in hs_X9_in ln_X9_154 rfl rfl (Nat.le_of_ble_eq_true rfl) (Nat.le_of_ble_eq_true rfl) (kc' := 0) (ks' := 0) rfl rfl (fun v19 u20 h => ?_)
          refine E_if_eq (tgt := 132) h dX9_row_89 (by decide) (fun h => ?_) (fun h => ?_)
          · refine Eg.pick [0, 1, 2, 3] rfl ?_
            exact pX9_row_132 hk35 _ _ _ _ _ h
          · refine E_aload_n dX9_row_92 rfl rfl ?_
            refine E_getA h dX9_row_93 cf9 lk_X9_13 (by decide) (fun _ _ _ => rfl) (fun e21 h => ?_)
            refine E_bipush (v := 15) dX9_row_96 (by decide) ?_
            refine E_bipush (v := 8) dX9_row_98 (by decide) ?_
            refine E_aload_n dX9_row_100 rfl rfl ?_
            refine E_getA h dX9_row_101 cf9 lk_X9_35 (by decide) (fun _ _ _ => rfl) (fun e22 h => ?_)
            refine E_iload_n dX9_row_104 rfl rfl ?_
            refine E_iald h dX9_row_105 (fun h => ?_)
            refine E_oI h (fun v23 h => ?_)
            refine E_imul dX9_row_106 ?_
            refine E_iadd dX9_row_107 ?_
            refine E_aload_n dX9_row_108 rfl rfl ?_
            refine E_getA h dX9_row_109 cf9 lk_X9_35 (by decide) (fun _ _ _ => rfl) (fun e24 h => ?_)
            refine E_iload_n dX9_row_112 rfl rfl ?_
            refine E_iconst (v := 1) dX9_row_113 (by decide) ?_
            refine E_iadd dX9_row_114 ?_
            refine E_iald h dX9_row_115 (fun h => ?_)
            refine E_oI h (fun v25 h => ?_)
            refine E_iadd dX9_row_116 ?_
            refine E_aload_n dX9_row_117 rfl rfl ?_
            refine E_getA h dX9_row_118 cf9 lk_X9_35 (by decide) (fun _ _ _ => rfl) (fun e26 h => ?_)
            refine E_iload_n dX9_row_121 rfl rfl ?_
            refine E_iconst (v := 2) dX9_row_122 (by decide) ?_
            refine E_iadd dX9_row_123 ?_
            refine E_iald h dX9_row_124 (fun h => ?_)
            refine E_oI h (fun v27 h => ?_)
            refine E_iast h dX9_row_125 (fun h => ?_)
            refine E_oU h (fun u28 h => ?_)
            refine E_iinc (j := 2) (v := x2 + 1) (l' := [(2, .int (x2 + 1)), (0, .ref a0), (1, .int x1), (3, .int x3)]) dX9_row_126 rfl (addI (by decide)) (Nat.le_of_ble_eq_true rfl) rfl ?_
            refine E_goto (tgt := 142) dX9_row_129 (by decide) ?_
            refine Eg.pick [1, 2, 0, 3] rfl ?_
            exact pX9_row_142 hk35 _ _ _ _ _ h
def rX9_row_35 : Nat → Mm → Nat → Int32 → Int32 → Int32 → Option (Int32 × Mm)
  | 0, _, _, _, _, _ => none
  | n + 1, u, a0, x1, x2, x3 => bX9_row_35 (rX9_row_35 n) u a0 x1 x2 x3
theorem prX9_row_35 {r : Int32} {u' : Mm} : ∀ (n : Nat) (u : Mm) (a0 : Nat) (x1 : Int32) (x2 : Int32) (x3 : Int32), rX9_row_35 n u a0 x1 x2 x3 = some (r, u') → Eg MX9_row 2 0 0 (some (.int r), u') 35 [(0, .ref a0), (1, .int x1), (2, .int x2), (3, .int x3)] [] u
  | 0, _, _, _, _, _, h => by cases h
  | n + 1, u, a0, x1, x2, x3, h => pX9_row_35 (prX9_row_35 n) u a0 x1 x2 x3 h
def fX9_row (u : Mm) (a0 : Nat) : Option (Int32 × Mm) := oK u a0 9 54 (oU (wI u a0 (upd (mI u a0) 0 0)) (fun u1 => oK u1 a0 9 54 (oI (mI u1 a0 13) (fun v2 => oK u1 a0 9 54 (oU (wI u1 a0 (upd (mI u1 a0) 13 0)) (fun u3 => (if (v2 : Int32) = 0 then oR u3 a0 9 (oB (fX9_answer u3 a0 ((-6))) (fun v29 u30 => some (v29, u30))) else oK u3 a0 9 54 (oU (wI u3 a0 (upd (mI u3 a0) 11 0)) (fun u4 => rX9_row_35 hwF u4 a0 v2 0 0)))))))))
set_option maxRecDepth 100000 in
set_option maxHeartbeats 4000000 in
theorem tX9_row {u : Mm} {a0 : Nat} {r : Int32} {u' : Mm} (h : fX9_row u a0 = some (r, u')) : Ev 2 MX9_row 0 0 [.ref a0] u (some (.int r), u') := by
  refine Ev.of (by decide +kernel) (Nat.le_of_ble_eq_true rfl) (show Eg MX9_row 2 0 0 (some (.int r), u') 0 [(0, .ref a0)] [] u from ?_)
  unfold fX9_row at h
  refine E_aload_n dX9_row_0 rfl rfl ?_
  refine E_iconst (v := 0) dX9_row_1 (by decide) ?_
  refine E_putI h dX9_row_2 cf9 lk_X9_134 (by decide) (Or.inl rfl) rfl (fun h => ?_)
  refine E_oU h (fun u1 h => ?_)
  refine E_aload_n dX9_row_5 rfl rfl ?_
  refine E_getI h dX9_row_6 cf9 lk_X9_211 (by decide) (fun _ _ _ => rfl) (fun h => ?_)
  refine E_oI h (fun v2 h => ?_)
  refine E_istore_n (l' := [(1, .int v2), (0, .ref a0)]) dX9_row_9 rfl (Nat.le_of_ble_eq_true rfl) rfl ?_
  refine E_aload_n dX9_row_10 rfl rfl ?_
  refine E_iconst (v := 0) dX9_row_11 (by decide) ?_
  refine E_putI h dX9_row_12 cf9 lk_X9_211 (by decide) (Or.inl rfl) rfl (fun h => ?_)
  refine E_oU h (fun u3 h => ?_)
  refine E_iload_n dX9_row_15 rfl rfl ?_
  refine E_if_ne (tgt := 26) h dX9_row_16 (by decide) (fun h => ?_) (fun h => ?_)
  · refine E_aload_n dX9_row_26 rfl rfl ?_
    refine E_iconst (v := 0) dX9_row_27 (by decide) ?_
    refine E_putI h dX9_row_28 cf9 lk_X9_214 (by decide) (Or.inl rfl) rfl (fun h => ?_)
    refine E_oU h (fun u4 h => ?_)
    refine E_iconst (v := 0) dX9_row_31 (by decide) ?_
    refine E_istore_n (l' := [(2, .int 0), (1, .int v2), (0, .ref a0)]) dX9_row_32 rfl (Nat.le_of_ble_eq_true rfl) rfl ?_
    refine E_iconst (v := 0) dX9_row_33 (by decide) ?_
    refine E_istore_n (l' := [(3, .int 0), (2, .int 0), (1, .int v2), (0, .ref a0)]) dX9_row_34 rfl (Nat.le_of_ble_eq_true rfl) rfl ?_
    refine Eg.pick [3, 2, 1, 0] rfl ?_
    exact prX9_row_35 _ _ _ _ _ _ h
  · refine E_aload_n dX9_row_19 rfl rfl ?_
    refine E_bipush (v := (-6)) dX9_row_20 (by decide) ?_
    refine F_Vi h (fun a m e => tX9_answer e) dX9_row_22 hm_X9_answer hv_X9_answer ln_X9_143 rfl rfl (Nat.le_of_ble_eq_true rfl) (Nat.le_of_ble_eq_true rfl) (kc' := 0) (ks' := 0) rfl rfl (fun v29 u30 h => ?_)
    exact E_iret h dX9_row_25 rfl
