/-! ===== methods as functions, with their contracts (printed by program) ===== -/
def bX8_holds_24 (u : Mm) (s0 : Int64) : Option (Int64 × Mm) := some (s0, u)
set_option maxRecDepth 100000 in
set_option maxHeartbeats 4000000 in
theorem pX8_holds_24 {r : Int64} {u' : Mm} (u : Mm) (s0 : Int64) (h : bX8_holds_24 u s0 = some (r, u')) : Eg MX8_holds 2 0 0 (some (.long r), u') 24 [] [.long s0] u := by
  unfold bX8_holds_24 at h
  exact E_lret h dX8_holds_24 rfl
def fX8_holds (u : Mm) (a0 : Nat) (x1 : Int32) : Option (Int64 × Mm) := oB (fX8_within u x1 0 60) (fun v1 u2 => (if (v1 : Int32) = 0 then bX8_holds_24 u2 ((-1)) else oK u2 a0 8 19 (oNn (mR u2 a0 2) (fun e3 => oR u2 e3 2 (oB (fX2_chanceToHold u2 e3 x1) (fun w4 u5 => bX8_holds_24 u5 w4))))))
set_option maxRecDepth 100000 in
set_option maxHeartbeats 4000000 in
theorem tX8_holds {u : Mm} {a0 : Nat} {x1 : Int32} {r : Int64} {u' : Mm} (h : fX8_holds u a0 x1 = some (r, u')) : Ev 2 MX8_holds 0 0 [.ref a0, .int x1] u (some (.long r), u') := by
  refine Ev.of (by decide +kernel) (Nat.le_of_ble_eq_true rfl) (show Eg MX8_holds 2 0 0 (some (.long r), u') 0 [(0, .ref a0), (1, .int x1)] [] u from ?_)
  unfold fX8_holds at h
  refine E_iload_n dX8_holds_0 rfl rfl ?_
  refine E_iconst (v := 0) dX8_holds_1 (by decide) ?_
  refine E_bipush (v := 60) dX8_holds_2 (by decide) ?_
  refine F_Si h (fun a m e => tX8_within e) dX8_holds_4 hm_X8_within hs_X8_within ln_X8_92 rfl rfl (Nat.le_of_ble_eq_true rfl) (Nat.le_of_ble_eq_true rfl) (kc' := 0) (ks' := 0) rfl rfl (fun v1 u2 h => ?_)
  refine E_if_eq (tgt := 21) h dX8_holds_7 (by decide) (fun h => ?_) (fun h => ?_)
  · refine E_ldc2 dX8_holds_21 rfl cn_X8_313 ?_
    refine Eg.pick [] rfl ?_
    exact pX8_holds_24 _ _ h
  · refine E_aload_n dX8_holds_10 rfl rfl ?_
    refine E_getA h dX8_holds_11 cf8 lk_X8_30 (by decide) (fun _ _ _ => rfl) (fun e3 h => ?_)
    refine E_iload_n dX8_holds_14 rfl rfl ?_
    refine F_Vl h (fun a m e => tX2_chanceToHold e) dX8_holds_15 hm_X2_chanceToHold hv_X2_chanceToHold ln_X8_309 rfl rfl (Nat.le_of_ble_eq_true rfl) (Nat.le_of_ble_eq_true rfl) (kc' := 0) (ks' := 0) rfl rfl (fun w4 u5 h => ?_)
    refine E_goto (tgt := 24) dX8_holds_18 (by decide) ?_
    refine Eg.pick [] rfl ?_
    exact pX8_holds_24 _ _ h
def fX8_which (u : Mm) (a0 : Nat) : Option (Int32 × Mm) := oK u a0 8 19 (oNn (mR u a0 2) (fun e1 => oR u e1 2 (oB (fX2_signsThatFit u e1) (fun v2 u3 => some (v2, u3)))))
set_option maxRecDepth 100000 in
set_option maxHeartbeats 4000000 in
theorem tX8_which {u : Mm} {a0 : Nat} {r : Int32} {u' : Mm} (h : fX8_which u a0 = some (r, u')) : Ev 6 MX8_which 0 0 [.ref a0] u (some (.int r), u') := by
  refine Ev.of (by decide +kernel) (Nat.le_of_ble_eq_true rfl) (show Eg MX8_which 6 0 0 (some (.int r), u') 0 [(0, .ref a0)] [] u from ?_)
  unfold fX8_which at h
  refine E_aload_n dX8_which_0 rfl rfl ?_
  refine E_getA h dX8_which_1 cf8 lk_X8_30 (by decide) (fun _ _ _ => rfl) (fun e1 h => ?_)
  refine F_Vi h (fun a m e => tX2_signsThatFit e) dX8_which_4 hm_X2_signsThatFit hv_X2_signsThatFit ln_X8_315 rfl rfl (Nat.le_of_ble_eq_true rfl) (Nat.le_of_ble_eq_true rfl) (kc' := 0) (ks' := 0) rfl rfl (fun v2 u3 h => ?_)
  exact E_iret h dX8_which_7 rfl
def bX8_compare_18 (u : Mm) (a0 : Nat) (x1 : Int32) : Option (Int32 × Mm) := oK u a0 8 19 (oNn (mR u a0 2) (fun e1 => oK u a0 8 19 (oNn (mR u a0 0) (fun e2 => oR u e2 0 (oB (fX0_lawOf u e2 x1) (fun g3 u4 => oR u4 e1 2 (oB (fX2_costOfAll u4 e1 g3) (fun v5 u6 => some (v5, u6)))))))))
set_option maxRecDepth 100000 in
set_option maxHeartbeats 4000000 in
theorem pX8_compare_18 {r : Int32} {u' : Mm} (u : Mm) (a0 : Nat) (x1 : Int32) (h : bX8_compare_18 u a0 x1 = some (r, u')) : Eg MX8_compare 5 0 0 (some (.int r), u') 18 [(0, .ref a0), (1, .int x1)] [] u := by
  unfold bX8_compare_18 at h
  refine E_aload_n dX8_compare_18 rfl rfl ?_
  refine E_getA h dX8_compare_19 cf8 lk_X8_30 (by decide) (fun _ _ _ => rfl) (fun e1 h => ?_)
  refine E_aload_n dX8_compare_22 rfl rfl ?_
  refine E_getA h dX8_compare_23 cf8 lk_X8_10 (by decide) (fun _ _ _ => rfl) (fun e2 h => ?_)
  refine E_iload_n dX8_compare_26 rfl rfl ?_
  refine F_Vq h (fun a m e => tX0_lawOf e) dX8_compare_27 hm_X0_lawOf hv_X0_lawOf ln_X8_318 rfl rfl (Nat.le_of_ble_eq_true rfl) (Nat.le_of_ble_eq_true rfl) (kc' := 0) (ks' := 0) rfl rfl (fun g3 u4 h => ?_)
  refine F_Vi h (fun a m e => tX2_costOfAll e) dX8_compare_30 hm_X2_costOfAll hv_X2_costOfAll ln_X8_322 rfl rfl (Nat.le_of_ble_eq_true rfl) (Nat.le_of_ble_eq_true rfl) (kc' := 0) (ks' := 0) rfl rfl (fun v5 u6 h => ?_)
  exact E_iret h dX8_compare_33 rfl
def fX8_compare (u : Mm) (a0 : Nat) (x1 : Int32) : Option (Int32 × Mm) := (if (x1 : Int32) = ((-1)) then bX8_compare_18 u a0 x1 else oK u a0 8 19 (oNn (mR u a0 0) (fun e7 => oR u e7 0 (oB (fX0_hasLaw u e7 x1) (fun v8 u9 => (if (v8 : Int32) = 0 then some ((-1), u9) else bX8_compare_18 u9 a0 x1))))))
set_option maxRecDepth 100000 in
set_option maxHeartbeats 4000000 in
theorem tX8_compare {u : Mm} {a0 : Nat} {x1 : Int32} {r : Int32} {u' : Mm} (h : fX8_compare u a0 x1 = some (r, u')) : Ev 5 MX8_compare 0 0 [.ref a0, .int x1] u (some (.int r), u') := by
  refine Ev.of (by decide +kernel) (Nat.le_of_ble_eq_true rfl) (show Eg MX8_compare 5 0 0 (some (.int r), u') 0 [(0, .ref a0), (1, .int x1)] [] u from ?_)
  unfold fX8_compare at h
  refine E_iload_n dX8_compare_0 rfl rfl ?_
  refine E_iconst (v := (-1)) dX8_compare_1 (by decide) ?_
  refine E_ic_eq (tgt := 18) h dX8_compare_2 (by decide) (fun h => ?_) (fun h => ?_)
  · refine Eg.pick [0, 1] rfl ?_
    exact pX8_compare_18 _ _ _ h
  · refine E_aload_n dX8_compare_5 rfl rfl ?_
    refine E_getA h dX8_compare_6 cf8 lk_X8_10 (by decide) (fun _ _ _ => rfl) (fun e7 h => ?_)
    refine E_iload_n dX8_compare_9 rfl rfl ?_
    refine F_Vi h (fun a m e => tX0_hasLaw e) dX8_compare_10 hm_X0_hasLaw hv_X0_hasLaw ln_X8_225 rfl rfl (Nat.le_of_ble_eq_true rfl) (Nat.le_of_ble_eq_true rfl) (kc' := 0) (ks' := 0) rfl rfl (fun v8 u9 h => ?_)
    refine E_if_ne (tgt := 18) h dX8_compare_13 (by decide) (fun h => ?_) (fun h => ?_)
    · refine Eg.pick [0, 1] rfl ?_
      exact pX8_compare_18 _ _ _ h
    · refine E_iconst (v := (-1)) dX8_compare_16 (by decide) ?_
      exact E_iret h dX8_compare_17 rfl
def bX8_decades_21 (u : Mm) (a0 : Nat) : Option (Int32 × Mm) := oR u a0 8 (oB (fX8_refuse u a0 ((-1))) (fun v3 u4 => some (v3, u4)))
set_option maxRecDepth 100000 in
set_option maxHeartbeats 4000000 in
theorem pX8_decades_21 {r : Int32} {u' : Mm} (u : Mm) (a0 : Nat) (h : bX8_decades_21 u a0 = some (r, u')) : Eg MX8_decades 6 0 0 (some (.int r), u') 21 [(0, .ref a0)] [] u := by
  unfold bX8_decades_21 at h
  refine E_aload_n dX8_decades_21 rfl rfl ?_
  refine E_iconst (v := (-1)) dX8_decades_22 (by decide) ?_
  refine F_Vi h (fun a m e => tX8_refuse e) dX8_decades_23 hm_X8_refuse hv_X8_refuse ln_X8_96 rfl rfl (Nat.le_of_ble_eq_true rfl) (Nat.le_of_ble_eq_true rfl) (kc' := 0) (ks' := 0) rfl rfl (fun v3 u4 h => ?_)
  exact E_iret h dX8_decades_26 rfl
def fX8_decades (u : Mm) (a0 : Nat) (x1 : Int32) (x2 : Int32) : Option (Int32 × Mm) := oB (fX8_within u x1 0 1000000) (fun v1 u2 => (if (v1 : Int32) = 0 then bX8_decades_21 u2 a0 else oB (fX8_within u2 x2 1 60) (fun v5 u6 => (if (v5 : Int32) = 0 then bX8_decades_21 u6 a0 else oK u6 a0 8 19 (oNn (mR u6 a0 9) (fun e7 => oK u6 a0 8 19 (oNn (mR u6 a0 0) (fun e8 => oK u6 e8 0 16 (oNn (mR u6 e8 0) (fun e9 => oR u6 e7 1 (oB (fX1_copyFrom u6 e7 e9) (fun _ u10 => oK u10 a0 8 19 (oZ 1 (oU (wI u10 a0 (upd (mI u10 a0) 10 1)) (fun u11 => oK u11 a0 8 19 (oNn (mR u11 a0 1) (fun e12 => oK u11 a0 8 19 (oNn (mR u11 a0 9) (fun e13 => oR u11 e12 7 (oB (fX7_runDecades u11 e12 e13 x1 x2) (fun v14 u15 => oR u15 a0 8 (oB (fX8_accept u15 a0 v14) (fun v16 u17 => some (v16, u17))))))))))))))))))))))))
set_option maxRecDepth 100000 in
set_option maxHeartbeats 4000000 in
theorem tX8_decades {u : Mm} {a0 : Nat} {x1 : Int32} {x2 : Int32} {r : Int32} {u' : Mm} (h : fX8_decades u a0 x1 x2 = some (r, u')) : Ev 6 MX8_decades 0 0 [.ref a0, .int x1, .int x2] u (some (.int r), u') := by
  refine Ev.of (by decide +kernel) (Nat.le_of_ble_eq_true rfl) (show Eg MX8_decades 6 0 0 (some (.int r), u') 0 [(0, .ref a0), (1, .int x1), (2, .int x2)] [] u from ?_)
  unfold fX8_decades at h
  refine E_iload_n dX8_decades_0 rfl rfl ?_
  refine E_iconst (v := 0) dX8_decades_1 (by decide) ?_
  refine E_ldcw dX8_decades_2 rfl cn_X8_325 ?_
  refine F_Si h (fun a m e => tX8_within e) dX8_decades_5 hm_X8_within hs_X8_within ln_X8_92 rfl rfl (Nat.le_of_ble_eq_true rfl) (Nat.le_of_ble_eq_true rfl) (kc' := 0) (ks' := 0) rfl rfl (fun v1 u2 h => ?_)
  refine E_if_eq (tgt := 21) h dX8_decades_8 (by decide) (fun h => ?_) (fun h => ?_)
  · refine Eg.pick [0] rfl ?_
    exact pX8_decades_21 _ _ h
  · refine E_iload_n dX8_decades_11 rfl rfl ?_
    refine E_iconst (v := 1) dX8_decades_12 (by decide) ?_
    refine E_bipush (v := 60) dX8_decades_13 (by decide) ?_
    refine F_Si h (fun a m e => tX8_within e) dX8_decades_15 hm_X8_within hs_X8_within ln_X8_92 rfl rfl (Nat.le_of_ble_eq_true rfl) (Nat.le_of_ble_eq_true rfl) (kc' := 0) (ks' := 0) rfl rfl (fun v5 u6 h => ?_)
    refine E_if_ne (tgt := 27) h dX8_decades_18 (by decide) (fun h => ?_) (fun h => ?_)
    · refine E_aload_n dX8_decades_27 rfl rfl ?_
      refine E_getA h dX8_decades_28 cf8 lk_X8_65 (by decide) (fun _ _ _ => rfl) (fun e7 h => ?_)
      refine E_aload_n dX8_decades_31 rfl rfl ?_
      refine E_getA h dX8_decades_32 cf8 lk_X8_10 (by decide) (fun _ _ _ => rfl) (fun e8 h => ?_)
      refine E_getA h dX8_decades_35 cf0 lk_X8_100 (by decide) (fun _ _ _ => rfl) (fun e9 h => ?_)
      refine F_Vv h (fun m e => tX1_copyFrom e) dX8_decades_38 hm_X1_copyFrom hv_X1_copyFrom ln_X8_214 rfl rfl (Nat.le_of_ble_eq_true rfl) (Nat.le_of_ble_eq_true rfl) (kc' := 0) (ks' := 0) rfl rfl (fun u10 h => ?_)
      refine E_aload_n dX8_decades_41 rfl rfl ?_
      refine E_iconst (v := 1) dX8_decades_42 (by decide) ?_
      refine E_putZ h dX8_decades_43 cf8 lk_X8_326 (by decide) (Or.inl rfl) rfl (fun h => ?_)
      refine E_oU h (fun u11 h => ?_)
      refine E_aload_n dX8_decades_46 rfl rfl ?_
      refine E_aload_n dX8_decades_47 rfl rfl ?_
      refine E_getA h dX8_decades_48 cf8 lk_X8_21 (by decide) (fun _ _ _ => rfl) (fun e12 h => ?_)
      refine E_aload_n dX8_decades_51 rfl rfl ?_
      refine E_getA h dX8_decades_52 cf8 lk_X8_65 (by decide) (fun _ _ _ => rfl) (fun e13 h => ?_)
      refine E_iload_n dX8_decades_55 rfl rfl ?_
      refine E_iload_n dX8_decades_56 rfl rfl ?_
      refine F_Vi h (fun a m e => tX7_runDecades e) dX8_decades_57 hm_X7_runDecades hv_X7_runDecades ln_X8_330 rfl rfl (Nat.le_of_ble_eq_true rfl) (Nat.le_of_ble_eq_true rfl) (kc' := 0) (ks' := 0) rfl rfl (fun v14 u15 h => ?_)
      refine F_Vi h (fun a m e => tX8_accept e) dX8_decades_60 hm_X8_accept hv_X8_accept ln_X8_114 rfl rfl (Nat.le_of_ble_eq_true rfl) (Nat.le_of_ble_eq_true rfl) (kc' := 0) (ks' := 0) rfl rfl (fun v16 u17 h => ?_)
      exact E_iret h dX8_decades_63 rfl
    · refine Eg.pick [0] rfl ?_
      exact pX8_decades_21 _ _ h
def bX8_drawn_105 (u : Mm) (a0 : Nat) (x1 : Int32) (x2 : Int32) : Option (Int32 × Mm) := oK u a0 8 19 (oNn (mR u a0 9) (fun e9 => oR u e9 1 (oB (fX1_menAt u e9 (x2 - 1) x1) (fun v10 u11 => some (v10, u11)))))
set_option maxRecDepth 100000 in
set_option maxHeartbeats 4000000 in
theorem pX8_drawn_105 {r : Int32} {u' : Mm} (u : Mm) (a0 : Nat) (x1 : Int32) (x2 : Int32) (h : bX8_drawn_105 u a0 x1 x2 = some (r, u')) : Eg MX8_drawn 2 0 0 (some (.int r), u') 105 [(0, .ref a0), (1, .int x1), (2, .int x2)] [] u := by
  unfold bX8_drawn_105 at h
  refine E_aload_n dX8_drawn_105 rfl rfl ?_
  refine E_getA h dX8_drawn_106 cf8 lk_X8_65 (by decide) (fun _ _ _ => rfl) (fun e9 h => ?_)
  refine E_iload_n dX8_drawn_109 rfl rfl ?_
  refine E_iconst (v := 1) dX8_drawn_110 (by decide) ?_
  refine E_isub dX8_drawn_111 ?_
  refine E_iload_n dX8_drawn_112 rfl rfl ?_
  refine F_Vi h (fun a m e => tX1_menAt e) dX8_drawn_113 hm_X1_menAt hv_X1_menAt ln_X8_103 rfl rfl (Nat.le_of_ble_eq_true rfl) (Nat.le_of_ble_eq_true rfl) (kc' := 0) (ks' := 0) rfl rfl (fun v10 u11 h => ?_)
  exact E_iret h dX8_drawn_116 rfl
def bX8_drawn_65 (u : Mm) (a0 : Nat) (x1 : Int32) (x2 : Int32) : Option (Int32 × Mm) := (if (x2 : Int32) = 0 then oK u a0 8 19 (oNn (mR u a0 9) (fun e6 => oR u e6 1 (oB (fX1_lineAt u e6 x1) (fun v7 u8 => some (v7, u8))))) else (if (x2 : Int32) = 1 then bX8_drawn_105 u a0 x1 x2 else (if (x2 : Int32) = 2 then bX8_drawn_105 u a0 x1 x2 else (if (x2 : Int32) = 3 then oK u a0 8 19 (oNn (mR u a0 9) (fun e12 => oR u e12 1 (oB (fX1_supplyOf u e12 x1) (fun v13 u14 => some (v13, u14))))) else oK u a0 8 19 (oNn (mR u a0 9) (fun e15 => oR u e15 1 (oB (fX1_temperOf u e15 x1) (fun v16 u17 => some (v16, u17)))))))))
set_option maxRecDepth 100000 in
set_option maxHeartbeats 4000000 in
theorem pX8_drawn_65 {r : Int32} {u' : Mm} (u : Mm) (a0 : Nat) (x1 : Int32) (x2 : Int32) (h : bX8_drawn_65 u a0 x1 x2 = some (r, u')) : Eg MX8_drawn 2 0 0 (some (.int r), u') 65 [(0, .ref a0), (1, .int x1), (2, .int x2)] [] u := by
  unfold bX8_drawn_65 at h
  refine E_iload_n dX8_drawn_65 rfl rfl ?_
  refine ite_cases h (fun c66_0 h => ?_) (fun c66_0 h => ?_)
  · refine E_tabIn (off := 30) (tgt := 96) dX8_drawn_66 c66_0 (by decide +kernel) (by decide +kernel) (by decide +kernel) (by decide) ?_
    refine E_aload_n dX8_drawn_96 rfl rfl ?_
    refine E_getA h dX8_drawn_97 cf8 lk_X8_65 (by decide) (fun _ _ _ => rfl) (fun e6 h => ?_)
    refine E_iload_n dX8_drawn_100 rfl rfl ?_
    refine F_Vi h (fun a m e => tX1_lineAt e) dX8_drawn_101 hm_X1_lineAt hv_X1_lineAt ln_X8_117 rfl rfl (Nat.le_of_ble_eq_true rfl) (Nat.le_of_ble_eq_true rfl) (kc' := 0) (ks' := 0) rfl rfl (fun v7 u8 h => ?_)
    exact E_iret h dX8_drawn_104 rfl
  · refine ite_cases h (fun c66_1 h => ?_) (fun c66_1 h => ?_)
    · refine E_tabIn (off := 39) (tgt := 105) dX8_drawn_66 c66_1 (by decide +kernel) (by decide +kernel) (by decide +kernel) (by decide) ?_
      refine Eg.pick [0, 1, 2] rfl ?_
      exact pX8_drawn_105 _ _ _ _ h
    · refine ite_cases h (fun c66_2 h => ?_) (fun c66_2 h => ?_)
      · refine E_tabIn (off := 39) (tgt := 105) dX8_drawn_66 c66_2 (by decide +kernel) (by decide +kernel) (by decide +kernel) (by decide) ?_
        refine Eg.pick [0, 1, 2] rfl ?_
        exact pX8_drawn_105 _ _ _ _ h
      · refine ite_cases h (fun c66_3 h => ?_) (fun c66_3 h => ?_)
        · refine E_tabIn (off := 51) (tgt := 117) dX8_drawn_66 c66_3 (by decide +kernel) (by decide +kernel) (by decide +kernel) (by decide) ?_
          refine E_aload_n dX8_drawn_117 rfl rfl ?_
          refine E_getA h dX8_drawn_118 cf8 lk_X8_65 (by decide) (fun _ _ _ => rfl) (fun e12 h => ?_)
          refine E_iload_n dX8_drawn_121 rfl rfl ?_
          refine F_Vi h (fun a m e => tX1_supplyOf e) dX8_drawn_122 hm_X1_supplyOf hv_X1_supplyOf ln_X8_132 rfl rfl (Nat.le_of_ble_eq_true rfl) (Nat.le_of_ble_eq_true rfl) (kc' := 0) (ks' := 0) rfl rfl (fun v13 u14 h => ?_)
          exact E_iret h dX8_drawn_125 rfl
        · refine E_tabD (tgt := 126) [0, 1, 2, 3] dX8_drawn_66 (by intro k hk; simp only [List.mem_cons, List.not_mem_nil, or_false] at hk; rcases hk with rfl | rfl | rfl | rfl <;> first | exact ne_lit (by decide +kernel) c66_0 | exact ne_lit (by decide +kernel) c66_1 | exact ne_lit (by decide +kernel) c66_2 | exact ne_lit (by decide +kernel) c66_3) (by decide +kernel) (by decide) ?_
          refine E_aload_n dX8_drawn_126 rfl rfl ?_
          refine E_getA h dX8_drawn_127 cf8 lk_X8_65 (by decide) (fun _ _ _ => rfl) (fun e15 h => ?_)
          refine E_iload_n dX8_drawn_130 rfl rfl ?_
          refine F_Vi h (fun a m e => tX1_temperOf e) dX8_drawn_131 hm_X1_temperOf hv_X1_temperOf ln_X8_135 rfl rfl (Nat.le_of_ble_eq_true rfl) (Nat.le_of_ble_eq_true rfl) (kc' := 0) (ks' := 0) rfl rfl (fun v16 u17 h => ?_)
          exact E_iret h dX8_drawn_134 rfl
def bX8_drawn_43 (u : Mm) (a0 : Nat) (x1 : Int32) (x2 : Int32) (x3 : Int32) (s0 : Int32) : Option (Int32 × Mm) := oK u a0 8 19 (oI (mI u a0 10) (fun v5 => (if (v5 : Int32) = 0 then some ((-1000), u) else (if (x3 : Int32) = 0 then (if (s0 : Int32) = 0 then some ((-1000), u) else bX8_drawn_65 u a0 x1 x2) else bX8_drawn_65 u a0 x1 x2))))
set_option maxRecDepth 100000 in
set_option maxHeartbeats 4000000 in
theorem pX8_drawn_43 {r : Int32} {u' : Mm} (u : Mm) (a0 : Nat) (x1 : Int32) (x2 : Int32) (x3 : Int32) (s0 : Int32) (h : bX8_drawn_43 u a0 x1 x2 x3 s0 = some (r, u')) : Eg MX8_drawn 2 0 0 (some (.int r), u') 43 [(0, .ref a0), (1, .int x1), (2, .int x2), (3, .int x3)] [.int s0] u := by
  unfold bX8_drawn_43 at h
  refine E_istore (l' := [(4, .int s0), (0, .ref a0), (1, .int x1), (2, .int x2), (3, .int x3)]) dX8_drawn_43 (Nat.le_of_ble_eq_true rfl) rfl ?_
  refine E_aload_n dX8_drawn_45 rfl rfl ?_
  refine E_getI h dX8_drawn_46 cf8 lk_X8_326 (by decide) (fun _ _ _ => rfl) (fun h => ?_)
  refine E_oI h (fun v5 h => ?_)
  refine E_if_eq (tgt := 61) h dX8_drawn_49 (by decide) (fun h => ?_) (fun h => ?_)
  · refine E_sipush (v := (-1000)) dX8_drawn_61 (by decide) ?_
    exact E_iret h dX8_drawn_64 rfl
  · refine E_iload_n dX8_drawn_52 rfl rfl ?_
    refine E_if_ne (tgt := 65) h dX8_drawn_53 (by decide) (fun h => ?_) (fun h => ?_)
    · refine Eg.pick [1, 2, 3] rfl ?_
      exact pX8_drawn_65 _ _ _ _ h
    · refine E_iload dX8_drawn_56 rfl ?_
      refine E_if_ne (tgt := 65) h dX8_drawn_58 (by decide) (fun h => ?_) (fun h => ?_)
      · refine Eg.pick [1, 2, 3] rfl ?_
        exact pX8_drawn_65 _ _ _ _ h
      · refine E_sipush (v := (-1000)) dX8_drawn_61 (by decide) ?_
        exact E_iret h dX8_drawn_64 rfl
def bX8_drawn_42 (u : Mm) (a0 : Nat) (x1 : Int32) (x2 : Int32) (x3 : Int32) : Option (Int32 × Mm) := bX8_drawn_43 u a0 x1 x2 x3 0
set_option maxRecDepth 100000 in
set_option maxHeartbeats 4000000 in
theorem pX8_drawn_42 {r : Int32} {u' : Mm} (u : Mm) (a0 : Nat) (x1 : Int32) (x2 : Int32) (x3 : Int32) (h : bX8_drawn_42 u a0 x1 x2 x3 = some (r, u')) : Eg MX8_drawn 2 0 0 (some (.int r), u') 42 [(0, .ref a0), (1, .int x1), (2, .int x2), (3, .int x3)] [] u := by
  unfold bX8_drawn_42 at h
  refine E_iconst (v := 0) dX8_drawn_42 (by decide) ?_
  refine Eg.pick [0, 1, 2, 3] rfl ?_
  exact pX8_drawn_43 _ _ _ _ _ _ h
def bX8_drawn_21 (u : Mm) (a0 : Nat) (x1 : Int32) (x2 : Int32) (s0 : Int32) : Option (Int32 × Mm) := oB (fX8_within u x2 3 4) (fun v3 u4 => (if (v3 : Int32) = 0 then bX8_drawn_42 u4 a0 x1 x2 s0 else oB (fX8_isSide u4 x1) (fun v18 u19 => (if (v18 : Int32) = 0 then bX8_drawn_42 u19 a0 x1 x2 s0 else bX8_drawn_43 u19 a0 x1 x2 s0 1))))
set_option maxRecDepth 100000 in
set_option maxHeartbeats 4000000 in
theorem pX8_drawn_21 {r : Int32} {u' : Mm} (u : Mm) (a0 : Nat) (x1 : Int32) (x2 : Int32) (s0 : Int32) (h : bX8_drawn_21 u a0 x1 x2 s0 = some (r, u')) : Eg MX8_drawn 2 0 0 (some (.int r), u') 21 [(0, .ref a0), (1, .int x1), (2, .int x2)] [.int s0] u := by
  unfold bX8_drawn_21 at h
  refine E_istore_n (l' := [(3, .int s0), (0, .ref a0), (1, .int x1), (2, .int x2)]) dX8_drawn_21 rfl (Nat.le_of_ble_eq_true rfl) rfl ?_
  refine E_iload_n dX8_drawn_22 rfl rfl ?_
  refine E_iconst (v := 3) dX8_drawn_23 (by decide) ?_
  refine E_iconst (v := 4) dX8_drawn_24 (by decide) ?_
  refine F_Si h (fun a m e => tX8_within e) dX8_drawn_25 hm_X8_within hs_X8_within ln_X8_92 rfl rfl (Nat.le_of_ble_eq_true rfl) (Nat.le_of_ble_eq_true rfl) (kc' := 0) (ks' := 0) rfl rfl (fun v3 u4 h => ?_)
  refine E_if_eq (tgt := 42) h dX8_drawn_28 (by decide) (fun h => ?_) (fun h => ?_)
  · refine Eg.pick [1, 2, 3, 0] rfl ?_
    exact pX8_drawn_42 _ _ _ _ _ h
  · refine E_iload_n dX8_drawn_31 rfl rfl ?_
    refine F_Si h (fun a m e => tX8_isSide e) dX8_drawn_32 hm_X8_isSide hs_X8_isSide ln_X8_85 rfl rfl (Nat.le_of_ble_eq_true rfl) (Nat.le_of_ble_eq_true rfl) (kc' := 0) (ks' := 0) rfl rfl (fun v18 u19 h => ?_)
    refine E_if_eq (tgt := 42) h dX8_drawn_35 (by decide) (fun h => ?_) (fun h => ?_)
    · refine Eg.pick [1, 2, 3, 0] rfl ?_
      exact pX8_drawn_42 _ _ _ _ _ h
    · refine E_iconst (v := 1) dX8_drawn_38 (by decide) ?_
      refine E_goto (tgt := 43) dX8_drawn_39 (by decide) ?_
      refine Eg.pick [1, 2, 3, 0] rfl ?_
      exact pX8_drawn_43 _ _ _ _ _ _ h
def bX8_drawn_20 (u : Mm) (a0 : Nat) (x1 : Int32) (x2 : Int32) : Option (Int32 × Mm) := bX8_drawn_21 u a0 x1 x2 0
set_option maxRecDepth 100000 in
set_option maxHeartbeats 4000000 in
theorem pX8_drawn_20 {r : Int32} {u' : Mm} (u : Mm) (a0 : Nat) (x1 : Int32) (x2 : Int32) (h : bX8_drawn_20 u a0 x1 x2 = some (r, u')) : Eg MX8_drawn 2 0 0 (some (.int r), u') 20 [(0, .ref a0), (1, .int x1), (2, .int x2)] [] u := by
  unfold bX8_drawn_20 at h
  refine E_iconst (v := 0) dX8_drawn_20 (by decide) ?_
  refine Eg.pick [0, 1, 2] rfl ?_
  exact pX8_drawn_21 _ _ _ _ _ h
def fX8_drawn (u : Mm) (a0 : Nat) (x1 : Int32) (x2 : Int32) : Option (Int32 × Mm) := oB (fX8_within u x2 0 2) (fun v1 u2 => (if (v1 : Int32) = 0 then bX8_drawn_20 u2 a0 x1 x2 else oB (fX8_isColumn u2 x1) (fun v20 u21 => (if (v20 : Int32) = 0 then bX8_drawn_20 u21 a0 x1 x2 else bX8_drawn_21 u21 a0 x1 x2 1))))
set_option maxRecDepth 100000 in
set_option maxHeartbeats 4000000 in
theorem tX8_drawn {u : Mm} {a0 : Nat} {x1 : Int32} {x2 : Int32} {r : Int32} {u' : Mm} (h : fX8_drawn u a0 x1 x2 = some (r, u')) : Ev 2 MX8_drawn 0 0 [.ref a0, .int x1, .int x2] u (some (.int r), u') := by
  refine Ev.of (by decide +kernel) (Nat.le_of_ble_eq_true rfl) (show Eg MX8_drawn 2 0 0 (some (.int r), u') 0 [(0, .ref a0), (1, .int x1), (2, .int x2)] [] u from ?_)
  unfold fX8_drawn at h
  refine E_iload_n dX8_drawn_0 rfl rfl ?_
  refine E_iconst (v := 0) dX8_drawn_1 (by decide) ?_
  refine E_iconst (v := 2) dX8_drawn_2 (by decide) ?_
  refine F_Si h (fun a m e => tX8_within e) dX8_drawn_3 hm_X8_within hs_X8_within ln_X8_92 rfl rfl (Nat.le_of_ble_eq_true rfl) (Nat.le_of_ble_eq_true rfl) (kc' := 0) (ks' := 0) rfl rfl (fun v1 u2 h => ?_)
  refine E_if_eq (tgt := 20) h dX8_drawn_6 (by decide) (fun h => ?_) (fun h => ?_)
  · refine Eg.pick [0, 1, 2] rfl ?_
    exact pX8_drawn_20 _ _ _ _ h
  · refine E_iload_n dX8_drawn_9 rfl rfl ?_
    refine F_Si h (fun a m e => tX8_isColumn e) dX8_drawn_10 hm_X8_isColumn hs_X8_isColumn ln_X8_89 rfl rfl (Nat.le_of_ble_eq_true rfl) (Nat.le_of_ble_eq_true rfl) (kc' := 0) (ks' := 0) rfl rfl (fun v20 u21 h => ?_)
    refine E_if_eq (tgt := 20) h dX8_drawn_13 (by decide) (fun h => ?_) (fun h => ?_)
    · refine Eg.pick [0, 1, 2] rfl ?_
      exact pX8_drawn_20 _ _ _ _ h
    · refine E_iconst (v := 1) dX8_drawn_16 (by decide) ?_
      refine E_goto (tgt := 21) dX8_drawn_17 (by decide) ?_
      refine Eg.pick [0, 1, 2] rfl ?_
      exact pX8_drawn_21 _ _ _ _ _ h
def bX8_image_37 (u : Mm) (a0 : Nat) (x1 : Int32) : Option (Int32 × Mm) := oK u a0 8 19 (oNn (mR u a0 4) (fun e5 => oA u e5 13 x1 (oNn (mR u e5 (Int32.toNatClampNeg x1)) (fun e6 => oK u a0 8 19 (oNn (mR u a0 0) (fun e7 => oR u e6 0 (oB (fX0_copyFrom u e6 e7) (fun _ u8 => oR u8 a0 8 (oB (fX8_accept u8 a0 0) (fun v9 u10 => some (v9, u10)))))))))))
set_option maxRecDepth 100000 in
set_option maxHeartbeats 4000000 in
theorem pX8_image_37 {r : Int32} {u' : Mm} (u : Mm) (a0 : Nat) (x1 : Int32) (h : bX8_image_37 u a0 x1 = some (r, u')) : Eg MX8_image 3 0 0 (some (.int r), u') 37 [(0, .ref a0), (1, .int x1)] [] u := by
  unfold bX8_image_37 at h
  refine E_aload_n dX8_image_37 rfl rfl ?_
  refine E_getA h dX8_image_38 cf8 lk_X8_41 (by decide) (fun _ _ _ => rfl) (fun e5 h => ?_)
  refine E_iload_n dX8_image_41 rfl rfl ?_
  refine E_aald13 h dX8_image_42 (fun h => ?_)
  refine E_oNn h (fun e6 h => ?_)
  refine E_aload_n dX8_image_43 rfl rfl ?_
  refine E_getA h dX8_image_44 cf8 lk_X8_10 (by decide) (fun _ _ _ => rfl) (fun e7 h => ?_)
  refine F_Vv h (fun m e => tX0_copyFrom e) dX8_image_47 hm_X0_copyFrom hv_X0_copyFrom ln_X8_333 rfl rfl (Nat.le_of_ble_eq_true rfl) (Nat.le_of_ble_eq_true rfl) (kc' := 0) (ks' := 0) rfl rfl (fun u8 h => ?_)
  refine E_aload_n dX8_image_50 rfl rfl ?_
  refine E_iconst (v := 0) dX8_image_51 (by decide) ?_
  refine F_Vi h (fun a m e => tX8_accept e) dX8_image_52 hm_X8_accept hv_X8_accept ln_X8_114 rfl rfl (Nat.le_of_ble_eq_true rfl) (Nat.le_of_ble_eq_true rfl) (kc' := 0) (ks' := 0) rfl rfl (fun v9 u10 h => ?_)
  exact E_iret h dX8_image_55 rfl
def fX8_image (u : Mm) (a0 : Nat) (x1 : Int32) : Option (Int32 × Mm) := oB (fX8_within u x1 0 1) (fun v1 u2 => (if (v1 : Int32) = 0 then oR u2 a0 8 (oB (fX8_refuse u2 a0 ((-1))) (fun v16 u17 => some (v16, u17))) else oK u2 a0 8 19 (oNn (mR u2 a0 4) (fun e3 => oA u2 e3 13 x1 ((match mR u2 e3 (Int32.toNatClampNeg x1) with | none => oK u2 a0 8 19 (oNn (mR u2 a0 4) (fun e11 => oP (mN u2) (fun e12 => oU (wN u2 0 16) (fun u13 => oB (fX0_init u13 e12) (fun _ u14 => oA u14 e11 13 x1 (oS u14 ((some e12)) 0 (oU (wR u14 e11 (va_up (mR u14 e11) (Int32.toNatClampNeg x1) ((some e12)))) (fun u15 => bX8_image_37 u15 a0 x1)))))))) | some e4 => bX8_image_37 u2 a0 x1))))))
set_option maxRecDepth 100000 in
set_option maxHeartbeats 4000000 in
theorem tX8_image {u : Mm} {a0 : Nat} {x1 : Int32} {r : Int32} {u' : Mm} (h : fX8_image u a0 x1 = some (r, u')) : Ev 3 MX8_image 12 144 [.ref a0, .int x1] u (some (.int r), u') := by
  refine Ev.of (by decide +kernel) (Nat.le_of_ble_eq_true rfl) (show Eg MX8_image 3 12 144 (some (.int r), u') 0 [(0, .ref a0), (1, .int x1)] [] u from ?_)
  unfold fX8_image at h
  refine E_iload_n dX8_image_0 rfl rfl ?_
  refine E_iconst (v := 0) dX8_image_1 (by decide) ?_
  refine E_iconst (v := 1) dX8_image_2 (by decide) ?_
  refine F_Si h (fun a m e => tX8_within e) dX8_image_3 hm_X8_within hs_X8_within ln_X8_92 rfl rfl (Nat.le_of_ble_eq_true rfl) (Nat.le_of_ble_eq_true rfl) (kc' := 12) (ks' := 144) rfl rfl (fun v1 u2 h => ?_)
  refine E_if_ne (tgt := 15) h dX8_image_6 (by decide) (fun h => ?_) (fun h => ?_)
  · refine E_aload_n dX8_image_15 rfl rfl ?_
    refine E_getA h dX8_image_16 cf8 lk_X8_41 (by decide) (fun _ _ _ => rfl) (fun e3 h => ?_)
    refine E_iload_n dX8_image_19 rfl rfl ?_
    refine E_aald13 h dX8_image_20 (fun h => ?_)
    refine E_ifnonnull (tgt := 37) h dX8_image_21 (by decide) (fun e4 e h => ?_) (fun e h => ?_)
    · refine Eg.more (kc' := 0) (ks' := 0) (Nat.le_of_ble_eq_true rfl) (Nat.le_of_ble_eq_true rfl) ?_
      refine Eg.pick [0, 1] rfl ?_
      exact pX8_image_37 _ _ _ h
    · refine E_aload_n dX8_image_24 rfl rfl ?_
      refine E_getA h dX8_image_25 cf8 lk_X8_41 (by decide) (fun _ _ _ => rfl) (fun e11 h => ?_)
      refine E_iload_n dX8_image_28 rfl rfl ?_
      refine E_new dX8_image_29 cf0 cl_X8_7 in_X0 ini_X0 nf_X0 (kc' := 11) (ks' := 128) rfl rfl ?_
      refine E_oP h (fun e12 h => ?_)
      refine E_oU h (fun u13 h => ?_)
      refine E_dup dX8_image_32 rfl ?_
      refine F_Iv h (fun m e => tX0_init e) rfl dX8_image_33 hm_X0_init rfl hi_X0_init ln_X8_9 rfl rfl (Nat.le_of_ble_eq_true rfl) (Nat.le_of_ble_eq_true rfl) (kc' := 0) (ks' := 0) rfl rfl (fun u14 h => ?_)
      refine E_aast (x := (some e12)) (kd := 13) (t0 := 3) (ci := 0) (fun _ => rfl) (Or.inl rfl) rfl (by decide) h dX8_image_36 (fun h => ?_)
      refine E_oU h (fun u15 h => ?_)
      refine Eg.pick [0, 1] rfl ?_
      exact pX8_image_37 _ _ _ h
  · refine E_aload_n dX8_image_9 rfl rfl ?_
    refine E_iconst (v := (-1)) dX8_image_10 (by decide) ?_
    refine F_Vi h (fun a m e => tX8_refuse e) dX8_image_11 hm_X8_refuse hv_X8_refuse ln_X8_96 rfl rfl (Nat.le_of_ble_eq_true rfl) (Nat.le_of_ble_eq_true rfl) (kc' := 12) (ks' := 144) rfl rfl (fun v16 u17 h => ?_)
    exact E_iret h dX8_image_14 rfl
def fX8_back (u : Mm) (a0 : Nat) (x1 : Int32) : Option (Int32 × Mm) := oB (fX8_within u x1 0 1) (fun v1 u2 => (if (v1 : Int32) = 0 then oR u2 a0 8 (oB (fX8_refuse u2 a0 ((-1))) (fun v15 u16 => some (v15, u16))) else oK u2 a0 8 19 (oNn (mR u2 a0 4) (fun e3 => oA u2 e3 13 x1 ((match mR u2 e3 (Int32.toNatClampNeg x1) with | none => oR u2 a0 8 (oB (fX8_refuse u2 a0 ((-2))) (fun v13 u14 => some (v13, u14))) | some e4 => oK u2 a0 8 19 (oNn (mR u2 a0 0) (fun e5 => oK u2 a0 8 19 (oNn (mR u2 a0 4) (fun e6 => oA u2 e6 13 x1 (oNn (mR u2 e6 (Int32.toNatClampNeg x1)) (fun e7 => oR u2 e5 0 (oB (fX0_copyFrom u2 e5 e7) (fun _ u8 => oK u8 a0 8 19 (oNn (mR u8 a0 5) (fun e9 => oR u8 e9 3 (oB (fX3_clear u8 e9) (fun _ u10 => oR u10 a0 8 (oB (fX8_accept u10 a0 0) (fun v11 u12 => some (v11, u12)))))))))))))))))))))
set_option maxRecDepth 100000 in
set_option maxHeartbeats 4000000 in
theorem tX8_back {u : Mm} {a0 : Nat} {x1 : Int32} {r : Int32} {u' : Mm} (h : fX8_back u a0 x1 = some (r, u')) : Ev 3 MX8_back 0 0 [.ref a0, .int x1] u (some (.int r), u') := by
  refine Ev.of (by decide +kernel) (Nat.le_of_ble_eq_true rfl) (show Eg MX8_back 3 0 0 (some (.int r), u') 0 [(0, .ref a0), (1, .int x1)] [] u from ?_)
  unfold fX8_back at h
  refine E_iload_n dX8_back_0 rfl rfl ?_
  refine E_iconst (v := 0) dX8_back_1 (by decide) ?_
  refine E_iconst (v := 1) dX8_back_2 (by decide) ?_
  refine F_Si h (fun a m e => tX8_within e) dX8_back_3 hm_X8_within hs_X8_within ln_X8_92 rfl rfl (Nat.le_of_ble_eq_true rfl) (Nat.le_of_ble_eq_true rfl) (kc' := 0) (ks' := 0) rfl rfl (fun v1 u2 h => ?_)
  refine E_if_ne (tgt := 15) h dX8_back_6 (by decide) (fun h => ?_) (fun h => ?_)
  · refine E_aload_n dX8_back_15 rfl rfl ?_
    refine E_getA h dX8_back_16 cf8 lk_X8_41 (by decide) (fun _ _ _ => rfl) (fun e3 h => ?_)
    refine E_iload_n dX8_back_19 rfl rfl ?_
    refine E_aald13 h dX8_back_20 (fun h => ?_)
    refine E_ifnonnull (tgt := 31) h dX8_back_21 (by decide) (fun e4 e h => ?_) (fun e h => ?_)
    · refine E_aload_n dX8_back_31 rfl rfl ?_
      refine E_getA h dX8_back_32 cf8 lk_X8_10 (by decide) (fun _ _ _ => rfl) (fun e5 h => ?_)
      refine E_aload_n dX8_back_35 rfl rfl ?_
      refine E_getA h dX8_back_36 cf8 lk_X8_41 (by decide) (fun _ _ _ => rfl) (fun e6 h => ?_)
      refine E_iload_n dX8_back_39 rfl rfl ?_
      refine E_aald13 h dX8_back_40 (fun h => ?_)
      refine E_oNn h (fun e7 h => ?_)
      refine F_Vv h (fun m e => tX0_copyFrom e) dX8_back_41 hm_X0_copyFrom hv_X0_copyFrom ln_X8_333 rfl rfl (Nat.le_of_ble_eq_true rfl) (Nat.le_of_ble_eq_true rfl) (kc' := 0) (ks' := 0) rfl rfl (fun u8 h => ?_)
      refine E_aload_n dX8_back_44 rfl rfl ?_
      refine E_getA h dX8_back_45 cf8 lk_X8_48 (by decide) (fun _ _ _ => rfl) (fun e9 h => ?_)
      refine F_Vv h (fun m e => tX3_clear e) dX8_back_48 hm_X3_clear hv_X3_clear ln_X8_111 rfl rfl (Nat.le_of_ble_eq_true rfl) (Nat.le_of_ble_eq_true rfl) (kc' := 0) (ks' := 0) rfl rfl (fun u10 h => ?_)
      refine E_aload_n dX8_back_51 rfl rfl ?_
      refine E_iconst (v := 0) dX8_back_52 (by decide) ?_
      refine F_Vi h (fun a m e => tX8_accept e) dX8_back_53 hm_X8_accept hv_X8_accept ln_X8_114 rfl rfl (Nat.le_of_ble_eq_true rfl) (Nat.le_of_ble_eq_true rfl) (kc' := 0) (ks' := 0) rfl rfl (fun v11 u12 h => ?_)
      exact E_iret h dX8_back_56 rfl
    · refine E_aload_n dX8_back_24 rfl rfl ?_
      refine E_bipush (v := (-2)) dX8_back_25 (by decide) ?_
      refine F_Vi h (fun a m e => tX8_refuse e) dX8_back_27 hm_X8_refuse hv_X8_refuse ln_X8_96 rfl rfl (Nat.le_of_ble_eq_true rfl) (Nat.le_of_ble_eq_true rfl) (kc' := 0) (ks' := 0) rfl rfl (fun v13 u14 h => ?_)
      exact E_iret h dX8_back_30 rfl
  · refine E_aload_n dX8_back_9 rfl rfl ?_
    refine E_iconst (v := (-1)) dX8_back_10 (by decide) ?_
    refine F_Vi h (fun a m e => tX8_refuse e) dX8_back_11 hm_X8_refuse hv_X8_refuse ln_X8_96 rfl rfl (Nat.le_of_ble_eq_true rfl) (Nat.le_of_ble_eq_true rfl) (kc' := 0) (ks' := 0) rfl rfl (fun v15 u16 h => ?_)
    exact E_iret h dX8_back_14 rfl
def bX8_count_97 (u : Mm) (a0 : Nat) (x1 : Int32) : Option (Int32 × Mm) := oK u a0 8 19 (oNn (mR u a0 17) (fun e10 => oA u e10 10 (x1 - 5) (oI (mI u e10 (Int32.toNatClampNeg (x1 - 5))) (fun v11 => some (v11, u)))))
set_option maxRecDepth 100000 in
set_option maxHeartbeats 4000000 in
theorem pX8_count_97 {r : Int32} {u' : Mm} (u : Mm) (a0 : Nat) (x1 : Int32) (h : bX8_count_97 u a0 x1 = some (r, u')) : Eg MX8_count 2 0 0 (some (.int r), u') 97 [(0, .ref a0), (1, .int x1)] [] u := by
  unfold bX8_count_97 at h
  refine E_aload_n dX8_count_97 rfl rfl ?_
  refine E_getA h dX8_count_98 cf8 lk_X8_82 (by decide) (fun _ _ _ => rfl) (fun e10 h => ?_)
  refine E_iload_n dX8_count_101 rfl rfl ?_
  refine E_iconst (v := 5) dX8_count_102 (by decide) ?_
  refine E_isub dX8_count_103 ?_
  refine E_iald h dX8_count_104 (fun h => ?_)
  refine E_oI h (fun v11 h => ?_)
  exact E_iret h dX8_count_105 rfl
def bX8_count_106 (u : Mm) (a0 : Nat) (x1 : Int32) : Option (Int32 × Mm) := oK u a0 8 19 (oNn (mR u a0 17) (fun e12 => oA u e12 10 (x1 - 4) (oI (mI u e12 (Int32.toNatClampNeg (x1 - 4))) (fun v13 => some (v13, u)))))
set_option maxRecDepth 100000 in
set_option maxHeartbeats 4000000 in
theorem pX8_count_106 {r : Int32} {u' : Mm} (u : Mm) (a0 : Nat) (x1 : Int32) (h : bX8_count_106 u a0 x1 = some (r, u')) : Eg MX8_count 2 0 0 (some (.int r), u') 106 [(0, .ref a0), (1, .int x1)] [] u := by
  unfold bX8_count_106 at h
  refine E_aload_n dX8_count_106 rfl rfl ?_
  refine E_getA h dX8_count_107 cf8 lk_X8_82 (by decide) (fun _ _ _ => rfl) (fun e12 h => ?_)
  refine E_iload_n dX8_count_110 rfl rfl ?_
  refine E_iconst (v := 4) dX8_count_111 (by decide) ?_
  refine E_isub dX8_count_112 ?_
  refine E_iald h dX8_count_113 (fun h => ?_)
  refine E_oI h (fun v13 h => ?_)
  exact E_iret h dX8_count_114 rfl
def fX8_count (u : Mm) (a0 : Nat) (x1 : Int32) : Option (Int32 × Mm) := (if (x1 : Int32) = 0 then oK u a0 8 19 (oNn (mR u a0 0) (fun e1 => oK u e1 0 16 (oI (mI u e1 7) (fun v2 => some (v2, u))))) else (if (x1 : Int32) = 1 then oK u a0 8 19 (oNn (mR u a0 0) (fun e3 => oK u e3 0 16 (oI (mI u e3 10) (fun v4 => some (v4, u))))) else (if (x1 : Int32) = 2 then oK u a0 8 19 (oNn (mR u a0 0) (fun e5 => oK u e5 0 16 (oI (mI u e5 14) (fun v6 => some (v6, u))))) else (if (x1 : Int32) = 3 then oK u a0 8 19 (oNn (mR u a0 5) (fun e7 => oK u e7 3 4 (oI (mI u e7 3) (fun v8 => some (v8, u))))) else (if (x1 : Int32) = 4 then oK u a0 8 19 (oI (mI u a0 12) (fun v9 => some (v9, u))) else (if (x1 : Int32) = 5 then bX8_count_97 u a0 x1 else (if (x1 : Int32) = 6 then bX8_count_97 u a0 x1 else (if (x1 : Int32) = 7 then bX8_count_97 u a0 x1 else (if (x1 : Int32) = 8 then bX8_count_106 u a0 x1 else (if (x1 : Int32) = 9 then bX8_count_106 u a0 x1 else (if (x1 : Int32) = 10 then oK u a0 8 19 (oNn (mR u a0 0) (fun e14 => oK u e14 0 16 (oI (mI u e14 15) (fun v15 => some (v15, u))))) else oK u a0 8 19 (oNn (mR u a0 0) (fun e16 => oR u e16 0 (oB (fX0_termOf u e16 (x1 - 11)) (fun v17 u18 => some (v17, u18))))))))))))))))
set_option maxRecDepth 100000 in
set_option maxHeartbeats 4000000 in
theorem tX8_count {u : Mm} {a0 : Nat} {x1 : Int32} {r : Int32} {u' : Mm} (h : fX8_count u a0 x1 = some (r, u')) : Ev 2 MX8_count 0 0 [.ref a0, .int x1] u (some (.int r), u') := by
  refine Ev.of (by decide +kernel) (Nat.le_of_ble_eq_true rfl) (show Eg MX8_count 2 0 0 (some (.int r), u') 0 [(0, .ref a0), (1, .int x1)] [] u from ?_)
  unfold fX8_count at h
  refine E_iload_n dX8_count_0 rfl rfl ?_
  refine ite_cases h (fun c1_0 h => ?_) (fun c1_0 h => ?_)
  · refine E_tabIn (off := 59) (tgt := 60) dX8_count_1 c1_0 (by decide +kernel) (by decide +kernel) (by decide +kernel) (by decide) ?_
    refine E_aload_n dX8_count_60 rfl rfl ?_
    refine E_getA h dX8_count_61 cf8 lk_X8_10 (by decide) (fun _ _ _ => rfl) (fun e1 h => ?_)
    refine E_getI h dX8_count_64 cf0 lk_X8_252 (by decide) (fun _ _ _ => rfl) (fun h => ?_)
    refine E_oI h (fun v2 h => ?_)
    exact E_iret h dX8_count_67 rfl
  · refine ite_cases h (fun c1_1 h => ?_) (fun c1_1 h => ?_)
    · refine E_tabIn (off := 67) (tgt := 68) dX8_count_1 c1_1 (by decide +kernel) (by decide +kernel) (by decide +kernel) (by decide) ?_
      refine E_aload_n dX8_count_68 rfl rfl ?_
      refine E_getA h dX8_count_69 cf8 lk_X8_10 (by decide) (fun _ _ _ => rfl) (fun e3 h => ?_)
      refine E_getI h dX8_count_72 cf0 lk_X8_261 (by decide) (fun _ _ _ => rfl) (fun h => ?_)
      refine E_oI h (fun v4 h => ?_)
      exact E_iret h dX8_count_75 rfl
    · refine ite_cases h (fun c1_2 h => ?_) (fun c1_2 h => ?_)
      · refine E_tabIn (off := 75) (tgt := 76) dX8_count_1 c1_2 (by decide +kernel) (by decide +kernel) (by decide +kernel) (by decide) ?_
        refine E_aload_n dX8_count_76 rfl rfl ?_
        refine E_getA h dX8_count_77 cf8 lk_X8_10 (by decide) (fun _ _ _ => rfl) (fun e5 h => ?_)
        refine E_getI h dX8_count_80 cf0 lk_X8_194 (by decide) (fun _ _ _ => rfl) (fun h => ?_)
        refine E_oI h (fun v6 h => ?_)
        exact E_iret h dX8_count_83 rfl
      · refine ite_cases h (fun c1_3 h => ?_) (fun c1_3 h => ?_)
        · refine E_tabIn (off := 83) (tgt := 84) dX8_count_1 c1_3 (by decide +kernel) (by decide +kernel) (by decide +kernel) (by decide) ?_
          refine E_aload_n dX8_count_84 rfl rfl ?_
          refine E_getA h dX8_count_85 cf8 lk_X8_48 (by decide) (fun _ _ _ => rfl) (fun e7 h => ?_)
          refine E_getI h dX8_count_88 cf3 lk_X8_238 (by decide) (fun _ _ _ => rfl) (fun h => ?_)
          refine E_oI h (fun v8 h => ?_)
          exact E_iret h dX8_count_91 rfl
        · refine ite_cases h (fun c1_4 h => ?_) (fun c1_4 h => ?_)
          · refine E_tabIn (off := 91) (tgt := 92) dX8_count_1 c1_4 (by decide +kernel) (by decide +kernel) (by decide +kernel) (by decide) ?_
            refine E_aload_n dX8_count_92 rfl rfl ?_
            refine E_getI h dX8_count_93 cf8 lk_X8_181 (by decide) (fun _ _ _ => rfl) (fun h => ?_)
            refine E_oI h (fun v9 h => ?_)
            exact E_iret h dX8_count_96 rfl
          · refine ite_cases h (fun c1_5 h => ?_) (fun c1_5 h => ?_)
            · refine E_tabIn (off := 96) (tgt := 97) dX8_count_1 c1_5 (by decide +kernel) (by decide +kernel) (by decide +kernel) (by decide) ?_
              refine Eg.pick [0, 1] rfl ?_
              exact pX8_count_97 _ _ _ h
            · refine ite_cases h (fun c1_6 h => ?_) (fun c1_6 h => ?_)
              · refine E_tabIn (off := 96) (tgt := 97) dX8_count_1 c1_6 (by decide +kernel) (by decide +kernel) (by decide +kernel) (by decide) ?_
                refine Eg.pick [0, 1] rfl ?_
                exact pX8_count_97 _ _ _ h
              · refine ite_cases h (fun c1_7 h => ?_) (fun c1_7 h => ?_)
                · refine E_tabIn (off := 96) (tgt := 97) dX8_count_1 c1_7 (by decide +kernel) (by decide +kernel) (by decide +kernel) (by decide) ?_
                  refine Eg.pick [0, 1] rfl ?_
                  exact pX8_count_97 _ _ _ h
                · refine ite_cases h (fun c1_8 h => ?_) (fun c1_8 h => ?_)
                  · refine E_tabIn (off := 105) (tgt := 106) dX8_count_1 c1_8 (by decide +kernel) (by decide +kernel) (by decide +kernel) (by decide) ?_
                    refine Eg.pick [0, 1] rfl ?_
                    exact pX8_count_106 _ _ _ h
                  · refine ite_cases h (fun c1_9 h => ?_) (fun c1_9 h => ?_)
                    · refine E_tabIn (off := 105) (tgt := 106) dX8_count_1 c1_9 (by decide +kernel) (by decide +kernel) (by decide +kernel) (by decide) ?_
                      refine Eg.pick [0, 1] rfl ?_
                      exact pX8_count_106 _ _ _ h
                    · refine ite_cases h (fun c1_10 h => ?_) (fun c1_10 h => ?_)
                      · refine E_tabIn (off := 114) (tgt := 115) dX8_count_1 c1_10 (by decide +kernel) (by decide +kernel) (by decide +kernel) (by decide) ?_
                        refine E_aload_n dX8_count_115 rfl rfl ?_
                        refine E_getA h dX8_count_116 cf8 lk_X8_10 (by decide) (fun _ _ _ => rfl) (fun e14 h => ?_)
                        refine E_getI h dX8_count_119 cf0 lk_X8_228 (by decide) (fun _ _ _ => rfl) (fun h => ?_)
                        refine E_oI h (fun v15 h => ?_)
                        exact E_iret h dX8_count_122 rfl
                      · refine E_tabD (tgt := 123) [0, 1, 2, 3, 4, 5, 6, 7, 8, 9, 10] dX8_count_1 (by intro k hk; simp only [List.mem_cons, List.not_mem_nil, or_false] at hk; rcases hk with rfl | rfl | rfl | rfl | rfl | rfl | rfl | rfl | rfl | rfl | rfl <;> first | exact ne_lit (by decide +kernel) c1_0 | exact ne_lit (by decide +kernel) c1_1 | exact ne_lit (by decide +kernel) c1_2 | exact ne_lit (by decide +kernel) c1_3 | exact ne_lit (by decide +kernel) c1_4 | exact ne_lit (by decide +kernel) c1_5 | exact ne_lit (by decide +kernel) c1_6 | exact ne_lit (by decide +kernel) c1_7 | exact ne_lit (by decide +kernel) c1_8 | exact ne_lit (by decide +kernel) c1_9 | exact ne_lit (by decide +kernel) c1_10) (by decide +kernel) (by decide) ?_
                        refine E_aload_n dX8_count_123 rfl rfl ?_
                        refine E_getA h dX8_count_124 cf8 lk_X8_10 (by decide) (fun _ _ _ => rfl) (fun e16 h => ?_)
                        refine E_iload_n dX8_count_127 rfl rfl ?_
                        refine E_bipush (v := 11) dX8_count_128 (by decide) ?_
                        refine E_isub dX8_count_130 ?_
                        refine F_Vi h (fun a m e => tX0_termOf e) dX8_count_131 hm_X0_termOf hv_X0_termOf ln_X8_170 rfl rfl (Nat.le_of_ble_eq_true rfl) (Nat.le_of_ble_eq_true rfl) (kc' := 0) (ks' := 0) rfl rfl (fun v17 u18 h => ?_)
                        exact E_iret h dX8_count_134 rfl
def fX8_status (u : Mm) (a0 : Nat) : Option (Int32 × Mm) := oK u a0 8 19 (oI (mI u a0 18) (fun v1 => some (v1, u)))
set_option maxRecDepth 100000 in
set_option maxHeartbeats 4000000 in
theorem tX8_status {u : Mm} {a0 : Nat} {r : Int32} {u' : Mm} (h : fX8_status u a0 = some (r, u')) : Ev 0 MX8_status 0 0 [.ref a0] u (some (.int r), u') := by
  refine Ev.of (by decide +kernel) (Nat.le_of_ble_eq_true rfl) (show Eg MX8_status 0 0 0 (some (.int r), u') 0 [(0, .ref a0)] [] u from ?_)
  unfold fX8_status at h
  refine E_aload_n dX8_status_0 rfl rfl ?_
  refine E_getI h dX8_status_1 cf8 lk_X8_335 (by decide) (fun _ _ _ => rfl) (fun h => ?_)
  refine E_oI h (fun v1 h => ?_)
  exact E_iret h dX8_status_4 rfl
def bX9_init_420 (k420 : Mm → Nat → Int32 → Option (Unit × Mm)) (u : Mm) (a0 : Nat) (x1 : Int32) : Option (Unit × Mm) := (if (16 : Int32) ≤ x1 then some ((), u) else oK u a0 9 54 (oNn (mR u a0 3) (fun e106 => oA u e106 10 ((51 : Int32) + x1) (oU (wI u e106 (upd (mI u e106) (Int32.toNatClampNeg ((51 : Int32) + x1)) ((-1)))) (fun u107 => oK u107 a0 9 54 (oNn (mR u107 a0 3) (fun e108 => oA u107 e108 10 ((83 : Int32) + x1) (oU (wI u107 e108 (upd (mI u107 e108) (Int32.toNatClampNeg ((83 : Int32) + x1)) 5)) (fun u109 => k420 u109 a0 (x1 + 1))))))))))
set_option maxRecDepth 100000 in
set_option maxHeartbeats 4000000 in
theorem pX9_init_420 {r : Unit} {u' : Mm} {k420 : Mm → Nat → Int32 → Option (Unit × Mm)} (hk420 : ∀ (u : Mm) (a0 : Nat) (x1 : Int32), k420 u a0 x1 = some (r, u') → Eg MX9_init 1 0 0 (none, u') 420 [(0, .ref a0), (1, .int x1)] [] u) (u : Mm) (a0 : Nat) (x1 : Int32) (h : bX9_init_420 k420 u a0 x1 = some (r, u')) : Eg MX9_init 1 0 0 (none, u') 420 [(0, .ref a0), (1, .int x1)] [] u := by
  unfold bX9_init_420 at h
  refine E_iload_n dX9_init_420 rfl rfl ?_
  refine E_bipush (v := 16) dX9_init_421 (by decide) ?_
  refine E_ic_ge (tgt := 452) h dX9_init_423 (by decide) (fun h => ?_) (fun h => ?_)
  · exact E_vret h dX9_init_452 rfl
  · refine E_aload_n dX9_init_426 rfl rfl ?_
    refine E_getA h dX9_init_427 cf9 lk_X9_13 (by decide) (fun _ _ _ => rfl) (fun e106 h => ?_)
    refine E_bipush (v := 51) dX9_init_430 (by decide) ?_
    refine E_iload_n dX9_init_432 rfl rfl ?_
    refine E_iadd dX9_init_433 ?_
    refine E_iconst (v := (-1)) dX9_init_434 (by decide) ?_
    refine E_iast h dX9_init_435 (fun h => ?_)
    refine E_oU h (fun u107 h => ?_)
    refine E_aload_n dX9_init_436 rfl rfl ?_
    refine E_getA h dX9_init_437 cf9 lk_X9_13 (by decide) (fun _ _ _ => rfl) (fun e108 h => ?_)
    refine E_bipush (v := 83) dX9_init_440 (by decide) ?_
    refine E_iload_n dX9_init_442 rfl rfl ?_
    refine E_iadd dX9_init_443 ?_
    refine E_iconst (v := 5) dX9_init_444 (by decide) ?_
    refine E_iast h dX9_init_445 (fun h => ?_)
    refine E_oU h (fun u109 h => ?_)
    refine E_iinc (j := 1) (v := x1 + 1) (l' := [(1, .int (x1 + 1)), (0, .ref a0)]) dX9_init_446 rfl (addI (by decide)) (Nat.le_of_ble_eq_true rfl) rfl ?_
    refine E_goto (tgt := 420) dX9_init_449 (by decide) ?_
    refine Eg.pick [1, 0] rfl ?_
    exact hk420 _ _ _ h
def rX9_init_420 : Nat → Mm → Nat → Int32 → Option (Unit × Mm)
  | 0, _, _, _ => none
  | n + 1, u, a0, x1 => bX9_init_420 (rX9_init_420 n) u a0 x1
theorem prX9_init_420 {r : Unit} {u' : Mm} : ∀ (n : Nat) (u : Mm) (a0 : Nat) (x1 : Int32), rX9_init_420 n u a0 x1 = some (r, u') → Eg MX9_init 1 0 0 (none, u') 420 [(0, .ref a0), (1, .int x1)] [] u
  | 0, _, _, _, h => by cases h
  | n + 1, u, a0, x1, h => pX9_init_420 (prX9_init_420 n) u a0 x1 h
def bX9_init_385 (k385 : Mm → Nat → Int32 → Option (Unit × Mm)) (u : Mm) (a0 : Nat) (x1 : Int32) : Option (Unit × Mm) := (if (2 : Int32) ≤ x1 then rX9_init_420 hwF u a0 0 else oK u a0 9 54 (oNn (mR u a0 3) (fun e110 => oA u e110 10 ((31 : Int32) + x1) (oU (wI u e110 (upd (mI u e110) (Int32.toNatClampNeg ((31 : Int32) + x1)) 50)) (fun u111 => oK u111 a0 9 54 (oNn (mR u111 a0 3) (fun e112 => oA u111 e112 10 ((33 : Int32) + x1) (oU (wI u111 e112 (upd (mI u111 e112) (Int32.toNatClampNeg ((33 : Int32) + x1)) 20)) (fun u113 => k385 u113 a0 (x1 + 1))))))))))
set_option maxRecDepth 100000 in
set_option maxHeartbeats 4000000 in
theorem pX9_init_385 {r : Unit} {u' : Mm} {k385 : Mm → Nat → Int32 → Option (Unit × Mm)} (hk385 : ∀ (u : Mm) (a0 : Nat) (x1 : Int32), k385 u a0 x1 = some (r, u') → Eg MX9_init 1 0 0 (none, u') 385 [(0, .ref a0), (1, .int x1)] [] u) (u : Mm) (a0 : Nat) (x1 : Int32) (h : bX9_init_385 k385 u a0 x1 = some (r, u')) : Eg MX9_init 1 0 0 (none, u') 385 [(0, .ref a0), (1, .int x1)] [] u := by
  unfold bX9_init_385 at h
  refine E_iload_n dX9_init_385 rfl rfl ?_
  refine E_iconst (v := 2) dX9_init_386 (by decide) ?_
  refine E_ic_ge (tgt := 418) h dX9_init_387 (by decide) (fun h => ?_) (fun h => ?_)
  · refine E_iconst (v := 0) dX9_init_418 (by decide) ?_
    refine E_istore_n (l' := [(1, .int 0), (0, .ref a0)]) dX9_init_419 rfl (Nat.le_of_ble_eq_true rfl) rfl ?_
    refine Eg.pick [1, 0] rfl ?_
    exact prX9_init_420 _ _ _ _ h
  · refine E_aload_n dX9_init_390 rfl rfl ?_
    refine E_getA h dX9_init_391 cf9 lk_X9_13 (by decide) (fun _ _ _ => rfl) (fun e110 h => ?_)
    refine E_bipush (v := 31) dX9_init_394 (by decide) ?_
    refine E_iload_n dX9_init_396 rfl rfl ?_
    refine E_iadd dX9_init_397 ?_
    refine E_bipush (v := 50) dX9_init_398 (by decide) ?_
    refine E_iast h dX9_init_400 (fun h => ?_)
    refine E_oU h (fun u111 h => ?_)
    refine E_aload_n dX9_init_401 rfl rfl ?_
    refine E_getA h dX9_init_402 cf9 lk_X9_13 (by decide) (fun _ _ _ => rfl) (fun e112 h => ?_)
    refine E_bipush (v := 33) dX9_init_405 (by decide) ?_
    refine E_iload_n dX9_init_407 rfl rfl ?_
    refine E_iadd dX9_init_408 ?_
    refine E_bipush (v := 20) dX9_init_409 (by decide) ?_
    refine E_iast h dX9_init_411 (fun h => ?_)
    refine E_oU h (fun u113 h => ?_)
    refine E_iinc (j := 1) (v := x1 + 1) (l' := [(1, .int (x1 + 1)), (0, .ref a0)]) dX9_init_412 rfl (addI (by decide)) (Nat.le_of_ble_eq_true rfl) rfl ?_
    refine E_goto (tgt := 385) dX9_init_415 (by decide) ?_
    refine Eg.pick [1, 0] rfl ?_
    exact hk385 _ _ _ h
def rX9_init_385 : Nat → Mm → Nat → Int32 → Option (Unit × Mm)
  | 0, _, _, _ => none
  | n + 1, u, a0, x1 => bX9_init_385 (rX9_init_385 n) u a0 x1
theorem prX9_init_385 {r : Unit} {u' : Mm} : ∀ (n : Nat) (u : Mm) (a0 : Nat) (x1 : Int32), rX9_init_385 n u a0 x1 = some (r, u') → Eg MX9_init 1 0 0 (none, u') 385 [(0, .ref a0), (1, .int x1)] [] u
  | 0, _, _, _, h => by cases h
  | n + 1, u, a0, x1, h => pX9_init_385 (prX9_init_385 n) u a0 x1 h
def fX9_init (u : Mm) (a0 : Nat) : Option (Unit × Mm) := oN 7 7 (oP (mN u) (fun e1 => oU (wN u 10 (Int32.toNatClampNeg 7)) (fun u2 => oK u2 a0 9 54 (oU (wR u2 a0 (va_up (mR u2 a0) 2 (some e1))) (fun u3 => oN 5530 5530 (oP (mN u3) (fun e4 => oU (wN u3 10 (Int32.toNatClampNeg 5530)) (fun u5 => oK u5 a0 9 54 (oU (wR u5 a0 (va_up (mR u5 a0) 3 (some e4))) (fun u6 => oN 11060 11060 (oP (mN u6) (fun e7 => oU (wN u6 10 (Int32.toNatClampNeg 11060)) (fun u8 => oK u8 a0 9 54 (oU (wR u8 a0 (va_up (mR u8 a0) 4 (some e7))) (fun u9 => oN 2 2 (oP (mN u9) (fun e10 => oU (wN u9 12 (Int32.toNatClampNeg 2)) (fun u11 => oK u11 a0 9 54 (oU (wR u11 a0 (va_up (mR u11 a0) 5 (some e10))) (fun u12 => oN 558 558 (oP (mN u12) (fun e13 => oU (wN u12 10 (Int32.toNatClampNeg 558)) (fun u14 => oK u14 a0 9 54 (oU (wR u14 a0 (va_up (mR u14 a0) 6 (some e13))) (fun u15 => oN 16 16 (oP (mN u15) (fun e16 => oU (wN u15 10 (Int32.toNatClampNeg 16)) (fun u17 => oK u17 a0 9 54 (oU (wR u17 a0 (va_up (mR u17 a0) 7 (some e16))) (fun u18 => oN 496 496 (oP (mN u18) (fun e19 => oU (wN u18 10 (Int32.toNatClampNeg 496)) (fun u20 => oK u20 a0 9 54 (oU (wR u20 a0 (va_up (mR u20 a0) 9 (some e19))) (fun u21 => oN 16 16 (oP (mN u21) (fun e22 => oU (wN u21 10 (Int32.toNatClampNeg 16)) (fun u23 => oK u23 a0 9 54 (oU (wR u23 a0 (va_up (mR u23 a0) 10 (some e22))) (fun u24 => oN 400 400 (oP (mN u24) (fun e25 => oU (wN u24 10 (Int32.toNatClampNeg 400)) (fun u26 => oK u26 a0 9 54 (oU (wR u26 a0 (va_up (mR u26 a0) 12 (some e25))) (fun u27 => oK u27 a0 9 54 (oU (wI u27 a0 (upd (mI u27 a0) 18 ((-1)))) (fun u28 => oN 96 96 (oP (mN u28) (fun e29 => oU (wN u28 10 (Int32.toNatClampNeg 96)) (fun u30 => oK u30 a0 9 54 (oU (wR u30 a0 (va_up (mR u30 a0) 22 (some e29))) (fun u31 => oN 400 400 (oP (mN u31) (fun e32 => oU (wN u31 10 (Int32.toNatClampNeg 400)) (fun u33 => oK u33 a0 9 54 (oU (wR u33 a0 (va_up (mR u33 a0) 24 (some e32))) (fun u34 => oN 400 400 (oP (mN u34) (fun e35 => oU (wN u34 10 (Int32.toNatClampNeg 400)) (fun u36 => oK u36 a0 9 54 (oU (wR u36 a0 (va_up (mR u36 a0) 25 (some e35))) (fun u37 => oN 400 400 (oP (mN u37) (fun e38 => oU (wN u37 10 (Int32.toNatClampNeg 400)) (fun u39 => oK u39 a0 9 54 (oU (wR u39 a0 (va_up (mR u39 a0) 27 (some e38))) (fun u40 => oN 400 400 (oP (mN u40) (fun e41 => oU (wN u40 10 (Int32.toNatClampNeg 400)) (fun u42 => oK u42 a0 9 54 (oU (wR u42 a0 (va_up (mR u42 a0) 28 (some e41))) (fun u43 => oN 10 10 (oP (mN u43) (fun e44 => oU (wN u43 11 (Int32.toNatClampNeg 10)) (fun u45 => oA u45 e44 11 0 (oU (wL u45 e44 (vp_updL (mL u45 e44) (Int32.toNatClampNeg 0) 631941)) (fun u46 => oA u46 e44 11 1 (oU (wL u46 e44 (vp_updL (mL u46 e44) (Int32.toNatClampNeg 1) 116807086)) (fun u47 => oA u47 e44 11 2 (oU (wL u47 e44 (vp_updL (mL u47 e44) (Int32.toNatClampNeg 2) 402885)) (fun u48 => oA u48 e44 11 3 (oU (wL u48 e44 (vp_updL (mL u48 e44) (Int32.toNatClampNeg 3) 13486)) (fun u49 => oA u49 e44 11 4 (oU (wL u49 e44 (vp_updL (mL u49 e44) (Int32.toNatClampNeg 4) 212147)) (fun u50 => oA u50 e44 11 5 (oU (wL u50 e44 (vp_updL (mL u50 e44) (Int32.toNatClampNeg 5) 660095385)) (fun u51 => oA u51 e44 11 6 (oU (wL u51 e44 (vp_updL (mL u51 e44) (Int32.toNatClampNeg 6) 676774066)) (fun u52 => oA u52 e44 11 7 (oU (wL u52 e44 (vp_updL (mL u52 e44) (Int32.toNatClampNeg 7) 632046)) (fun u53 => oA u53 e44 11 8 (oU (wL u53 e44 (vp_updL (mL u53 e44) (Int32.toNatClampNeg 8) 4153)) (fun u54 => oA u54 e44 11 9 (oU (wL u54 e44 (vp_updL (mL u54 e44) (Int32.toNatClampNeg 9) 441828)) (fun u55 => oK u55 a0 9 54 (oU (wR u55 a0 (va_up (mR u55 a0) 31 (some e44))) (fun u56 => oN 6 6 (oP (mN u56) (fun e57 => oU (wN u56 11 (Int32.toNatClampNeg 6)) (fun u58 => oA u58 e57 11 0 (oU (wL u58 e57 (vp_updL (mL u58 e57) (Int32.toNatClampNeg 0) 4153)) (fun u59 => oA u59 e57 11 1 (oU (wL u59 e57 (vp_updL (mL u59 e57) (Int32.toNatClampNeg 1) 146885)) (fun u60 => oA u60 e57 11 2 (oU (wL u60 e57 (vp_updL (mL u60 e57) (Int32.toNatClampNeg 2) 404362868)) (fun u61 => oA u61 e57 11 3 (oU (wL u61 e57 (vp_updL (mL u61 e57) (Int32.toNatClampNeg 3) 402885)) (fun u62 => oA u62 e57 11 4 (oU (wL u62 e57 (vp_updL (mL u62 e57) (Int32.toNatClampNeg 4) 660095385)) (fun u63 => oA u63 e57 11 5 (oU (wL u63 e57 (vp_updL (mL u63 e57) (Int32.toNatClampNeg 5) 676774066)) (fun u64 => oK u64 a0 9 54 (oU (wR u64 a0 (va_up (mR u64 a0) 32 (some e57))) (fun u65 => oN 4 4 (oP (mN u65) (fun e66 => oU (wN u65 11 (Int32.toNatClampNeg 4)) (fun u67 => oA u67 e66 11 0 (oU (wL u67 e66 (vp_updL (mL u67 e66) (Int32.toNatClampNeg 0) 19039379)) (fun u68 => oA u68 e66 11 1 (oU (wL u68 e66 (vp_updL (mL u68 e66) (Int32.toNatClampNeg 1) 3657363)) (fun u69 => oA u69 e66 11 2 (oU (wL u69 e66 (vp_updL (mL u69 e66) (Int32.toNatClampNeg 2) 6460563)) (fun u70 => oA u70 e66 11 3 (oU (wL u70 e66 (vp_updL (mL u70 e66) (Int32.toNatClampNeg 3) 67155)) (fun u71 => oK u71 a0 9 54 (oU (wR u71 a0 (va_up (mR u71 a0) 33 (some e66))) (fun u72 => oN 13 13 (oP (mN u72) (fun e73 => oU (wN u72 11 (Int32.toNatClampNeg 13)) (fun u74 => oK u74 a0 9 54 (oU (wR u74 a0 (va_up (mR u74 a0) 35 (some e73))) (fun u75 => oN 13 13 (oP (mN u75) (fun e76 => oU (wN u75 11 (Int32.toNatClampNeg 13)) (fun u77 => oK u77 a0 9 54 (oU (wR u77 a0 (va_up (mR u77 a0) 36 (some e76))) (fun u78 => oN 400 400 (oP (mN u78) (fun e79 => oU (wN u78 11 (Int32.toNatClampNeg 400)) (fun u80 => oK u80 a0 9 54 (oU (wR u80 a0 (va_up (mR u80 a0) 37 (some e79))) (fun u81 => oN 16 16 (oP (mN u81) (fun e82 => oU (wN u81 12 (Int32.toNatClampNeg 16)) (fun u83 => oK u83 a0 9 54 (oU (wR u83 a0 (va_up (mR u83 a0) 41 (some e82))) (fun u84 => oN 8 8 (oP (mN u84) (fun e85 => oU (wN u84 10 (Int32.toNatClampNeg 8)) (fun u86 => oK u86 a0 9 54 (oU (wR u86 a0 (va_up (mR u86 a0) 42 (some e85))) (fun u87 => oN 4 4 (oP (mN u87) (fun e88 => oU (wN u87 11 (Int32.toNatClampNeg 4)) (fun u89 => oA u89 e88 11 0 (oU (wL u89 e88 (vp_updL (mL u89 e88) (Int32.toNatClampNeg 0) 55182443)) (fun u90 => oA u90 e88 11 1 (oU (wL u90 e88 (vp_updL (mL u90 e88) (Int32.toNatClampNeg 1) 20194516)) (fun u91 => oA u91 e88 11 2 (oU (wL u91 e88 (vp_updL (mL u91 e88) (Int32.toNatClampNeg 2) 631287)) (fun u92 => oA u92 e88 11 3 (oU (wL u92 e88 (vp_updL (mL u92 e88) (Int32.toNatClampNeg 3) 525939)) (fun u93 => oK u93 a0 9 54 (oU (wR u93 a0 (va_up (mR u93 a0) 45 (some e88))) (fun u94 => oN 120 120 (oP (mN u94) (fun e95 => oU (wN u94 10 (Int32.toNatClampNeg 120)) (fun u96 => oK u96 a0 9 54 (oU (wR u96 a0 (va_up (mR u96 a0) 46 (some e95))) (fun u97 => oK u97 a0 9 54 (oU (wI u97 a0 (upd (mI u97 a0) 49 ((-1)))) (fun u98 => oN 31 31 (oP (mN u98) (fun e99 => oU (wN u98 10 (Int32.toNatClampNeg 31)) (fun u100 => oK u100 a0 9 54 (oU (wR u100 a0 (va_up (mR u100 a0) 52 (some e99))) (fun u101 => oK u101 a0 9 54 (oNn (mR u101 a0 3) (fun e102 => oA u101 e102 10 3 (oU (wI u101 e102 (upd (mI u101 e102) (Int32.toNatClampNeg 3) ((-1)))) (fun u103 => oK u103 a0 9 54 (oNn (mR u103 a0 3) (fun e104 => oA u103 e104 10 5 (oU (wI u103 e104 (upd (mI u103 e104) (Int32.toNatClampNeg 5) 3)) (fun u105 => rX9_init_385 hwF u105 a0 0)))))))))))))))))))))))))))))))))))))))))))))))))))))))))))))))))))))))))))))))))))))))))))))))))))))))))))))))))))))))))))))))))))))))))))))))))))))))))))))))))))))))))))))))))))))))))
set_option maxRecDepth 100000 in
set_option maxHeartbeats 4000000 in
theorem tX9_init {u : Mm} {a0 : Nat} {r : Unit} {u' : Mm} (h : fX9_init u a0 = some (r, u')) : Ev 1 MX9_init 25 20406 [.ref a0] u (none, u') := by
  refine Ev.of (by decide +kernel) (Nat.le_of_ble_eq_true rfl) (show Eg MX9_init 1 25 20406 (none, u') 0 [(0, .ref a0)] [] u from ?_)
  unfold fX9_init at h
  refine E_aload_n dX9_init_0 rfl rfl ?_
  refine E_objInit dX9_init_1 ln_X9_1 oi_2 oi_3 (Nat.le_of_ble_eq_true rfl) (Nat.le_of_ble_eq_true rfl) ?_
  refine E_aload_n dX9_init_4 rfl rfl ?_
  refine E_bipush (v := 7) dX9_init_5 (by decide) ?_
  refine E_newI h dX9_init_7 aw_int (by decide) (kc' := 24) (ks' := 20399) rfl rfl (fun h => ?_)
  refine E_oP h (fun e1 h => ?_)
  refine E_oU h (fun u2 h => ?_)
  refine E_putR h dX9_init_9 cf9 lk_X9_7 (by decide) (Or.inr ⟨rfl, rfl, rfl, lkm_X9_7⟩) (Or.inr ⟨_, rfl⟩) (fun h => ?_)
  refine E_oU h (fun u3 h => ?_)
  refine E_aload_n dX9_init_12 rfl rfl ?_
  refine E_sipush (v := 5530) dX9_init_13 (by decide) ?_
  refine E_newI h dX9_init_16 aw_int (by decide) (kc' := 23) (ks' := 14869) rfl rfl (fun h => ?_)
  refine E_oP h (fun e4 h => ?_)
  refine E_oU h (fun u5 h => ?_)
  refine E_putR h dX9_init_18 cf9 lk_X9_13 (by decide) (Or.inr ⟨rfl, rfl, rfl, lkm_X9_13⟩) (Or.inr ⟨_, rfl⟩) (fun h => ?_)
  refine E_oU h (fun u6 h => ?_)
  refine E_aload_n dX9_init_21 rfl rfl ?_
  refine E_sipush (v := 11060) dX9_init_22 (by decide) ?_
  refine E_newI h dX9_init_25 aw_int (by decide) (kc' := 22) (ks' := 3809) rfl rfl (fun h => ?_)
  refine E_oP h (fun e7 h => ?_)
  refine E_oU h (fun u8 h => ?_)
  refine E_putR h dX9_init_27 cf9 lk_X9_16 (by decide) (Or.inr ⟨rfl, rfl, rfl, lkm_X9_16⟩) (Or.inr ⟨_, rfl⟩) (fun h => ?_)
  refine E_oU h (fun u9 h => ?_)
  refine E_aload_n dX9_init_30 rfl rfl ?_
  refine E_iconst (v := 2) dX9_init_31 (by decide) ?_
  refine E_newZ h dX9_init_32 aw_boolean (by decide) (kc' := 21) (ks' := 3807) rfl rfl (fun h => ?_)
  refine E_oP h (fun e10 h => ?_)
  refine E_oU h (fun u11 h => ?_)
  refine E_putR h dX9_init_34 cf9 lk_X9_19 (by decide) (Or.inr ⟨rfl, rfl, rfl, lkm_X9_19⟩) (Or.inr ⟨_, rfl⟩) (fun h => ?_)
  refine E_oU h (fun u12 h => ?_)
  refine E_aload_n dX9_init_37 rfl rfl ?_
  refine E_sipush (v := 558) dX9_init_38 (by decide) ?_
  refine E_newI h dX9_init_41 aw_int (by decide) (kc' := 20) (ks' := 3249) rfl rfl (fun h => ?_)
  refine E_oP h (fun e13 h => ?_)
  refine E_oU h (fun u14 h => ?_)
  refine E_putR h dX9_init_43 cf9 lk_X9_23 (by decide) (Or.inr ⟨rfl, rfl, rfl, lkm_X9_23⟩) (Or.inr ⟨_, rfl⟩) (fun h => ?_)
  refine E_oU h (fun u15 h => ?_)
  refine E_aload_n dX9_init_46 rfl rfl ?_
  refine E_bipush (v := 16) dX9_init_47 (by decide) ?_
  refine E_newI h dX9_init_49 aw_int (by decide) (kc' := 19) (ks' := 3233) rfl rfl (fun h => ?_)
  refine E_oP h (fun e16 h => ?_)
  refine E_oU h (fun u17 h => ?_)
  refine E_putR h dX9_init_51 cf9 lk_X9_26 (by decide) (Or.inr ⟨rfl, rfl, rfl, lkm_X9_26⟩) (Or.inr ⟨_, rfl⟩) (fun h => ?_)
  refine E_oU h (fun u18 h => ?_)
  refine E_aload_n dX9_init_54 rfl rfl ?_
  refine E_sipush (v := 496) dX9_init_55 (by decide) ?_
  refine E_newI h dX9_init_58 aw_int (by decide) (kc' := 18) (ks' := 2737) rfl rfl (fun h => ?_)
  refine E_oP h (fun e19 h => ?_)
  refine E_oU h (fun u20 h => ?_)
  refine E_putR h dX9_init_60 cf9 lk_X9_29 (by decide) (Or.inr ⟨rfl, rfl, rfl, lkm_X9_29⟩) (Or.inr ⟨_, rfl⟩) (fun h => ?_)
  refine E_oU h (fun u21 h => ?_)
  refine E_aload_n dX9_init_63 rfl rfl ?_
  refine E_bipush (v := 16) dX9_init_64 (by decide) ?_
  refine E_newI h dX9_init_66 aw_int (by decide) (kc' := 17) (ks' := 2721) rfl rfl (fun h => ?_)
  refine E_oP h (fun e22 h => ?_)
  refine E_oU h (fun u23 h => ?_)
  refine E_putR h dX9_init_68 cf9 lk_X9_32 (by decide) (Or.inr ⟨rfl, rfl, rfl, lkm_X9_32⟩) (Or.inr ⟨_, rfl⟩) (fun h => ?_)
  refine E_oU h (fun u24 h => ?_)
  refine E_aload_n dX9_init_71 rfl rfl ?_
  refine E_sipush (v := 400) dX9_init_72 (by decide) ?_
  refine E_newI h dX9_init_75 aw_int (by decide) (kc' := 16) (ks' := 2321) rfl rfl (fun h => ?_)
  refine E_oP h (fun e25 h => ?_)
  refine E_oU h (fun u26 h => ?_)
  refine E_putR h dX9_init_77 cf9 lk_X9_35 (by decide) (Or.inr ⟨rfl, rfl, rfl, lkm_X9_35⟩) (Or.inr ⟨_, rfl⟩) (fun h => ?_)
  refine E_oU h (fun u27 h => ?_)
  refine E_aload_n dX9_init_80 rfl rfl ?_
  refine E_iconst (v := (-1)) dX9_init_81 (by decide) ?_
  refine E_putI h dX9_init_82 cf9 lk_X9_38 (by decide) (Or.inl rfl) rfl (fun h => ?_)
  refine E_oU h (fun u28 h => ?_)
  refine E_aload_n dX9_init_85 rfl rfl ?_
  refine E_bipush (v := 96) dX9_init_86 (by decide) ?_
  refine E_newI h dX9_init_88 aw_int (by decide) (kc' := 15) (ks' := 2225) rfl rfl (fun h => ?_)
  refine E_oP h (fun e29 h => ?_)
  refine E_oU h (fun u30 h => ?_)
  refine E_putR h dX9_init_90 cf9 lk_X9_42 (by decide) (Or.inr ⟨rfl, rfl, rfl, lkm_X9_42⟩) (Or.inr ⟨_, rfl⟩) (fun h => ?_)
  refine E_oU h (fun u31 h => ?_)
  refine E_aload_n dX9_init_93 rfl rfl ?_
  refine E_sipush (v := 400) dX9_init_94 (by decide) ?_
  refine E_newI h dX9_init_97 aw_int (by decide) (kc' := 14) (ks' := 1825) rfl rfl (fun h => ?_)
  refine E_oP h (fun e32 h => ?_)
  refine E_oU h (fun u33 h => ?_)
  refine E_putR h dX9_init_99 cf9 lk_X9_45 (by decide) (Or.inr ⟨rfl, rfl, rfl, lkm_X9_45⟩) (Or.inr ⟨_, rfl⟩) (fun h => ?_)
  refine E_oU h (fun u34 h => ?_)
  refine E_aload_n dX9_init_102 rfl rfl ?_
  refine E_sipush (v := 400) dX9_init_103 (by decide) ?_
  refine E_newI h dX9_init_106 aw_int (by decide) (kc' := 13) (ks' := 1425) rfl rfl (fun h => ?_)
  refine E_oP h (fun e35 h => ?_)
  refine E_oU h (fun u36 h => ?_)
  refine E_putR h dX9_init_108 cf9 lk_X9_48 (by decide) (Or.inr ⟨rfl, rfl, rfl, lkm_X9_48⟩) (Or.inr ⟨_, rfl⟩) (fun h => ?_)
  refine E_oU h (fun u37 h => ?_)
  refine E_aload_n dX9_init_111 rfl rfl ?_
  refine E_sipush (v := 400) dX9_init_112 (by decide) ?_
  refine E_newI h dX9_init_115 aw_int (by decide) (kc' := 12) (ks' := 1025) rfl rfl (fun h => ?_)
  refine E_oP h (fun e38 h => ?_)
  refine E_oU h (fun u39 h => ?_)
  refine E_putR h dX9_init_117 cf9 lk_X9_51 (by decide) (Or.inr ⟨rfl, rfl, rfl, lkm_X9_51⟩) (Or.inr ⟨_, rfl⟩) (fun h => ?_)
  refine E_oU h (fun u40 h => ?_)
  refine E_aload_n dX9_init_120 rfl rfl ?_
  refine E_sipush (v := 400) dX9_init_121 (by decide) ?_
  refine E_newI h dX9_init_124 aw_int (by decide) (kc' := 11) (ks' := 625) rfl rfl (fun h => ?_)
  refine E_oP h (fun e41 h => ?_)
  refine E_oU h (fun u42 h => ?_)
  refine E_putR h dX9_init_126 cf9 lk_X9_54 (by decide) (Or.inr ⟨rfl, rfl, rfl, lkm_X9_54⟩) (Or.inr ⟨_, rfl⟩) (fun h => ?_)
  refine E_oU h (fun u43 h => ?_)
  refine E_aload_n dX9_init_129 rfl rfl ?_
  refine E_bipush (v := 10) dX9_init_130 (by decide) ?_
  refine E_newL h dX9_init_132 aw_long (by decide) (kc' := 10) (ks' := 615) rfl rfl (fun h => ?_)
  refine E_oP h (fun e44 h => ?_)
  refine E_oU h (fun u45 h => ?_)
  refine E_dup dX9_init_134 rfl ?_
  refine E_iconst (v := 0) dX9_init_135 (by decide) ?_
  refine E_ldc2 dX9_init_136 rfl cn_X9_57 ?_
  refine E_last h dX9_init_139 (fun h => ?_)
  refine E_oU h (fun u46 h => ?_)
  refine E_dup dX9_init_140 rfl ?_
  refine E_iconst (v := 1) dX9_init_141 (by decide) ?_
  refine E_ldc2 dX9_init_142 rfl cn_X9_59 ?_
  refine E_last h dX9_init_145 (fun h => ?_)
  refine E_oU h (fun u47 h => ?_)
  refine E_dup dX9_init_146 rfl ?_
  refine E_iconst (v := 2) dX9_init_147 (by decide) ?_
  refine E_ldc2 dX9_init_148 rfl cn_X9_61 ?_
  refine E_last h dX9_init_151 (fun h => ?_)
  refine E_oU h (fun u48 h => ?_)
  refine E_dup dX9_init_152 rfl ?_
  refine E_iconst (v := 3) dX9_init_153 (by decide) ?_
  refine E_ldc2 dX9_init_154 rfl cn_X9_63 ?_
  refine E_last h dX9_init_157 (fun h => ?_)
  refine E_oU h (fun u49 h => ?_)
  refine E_dup dX9_init_158 rfl ?_
  refine E_iconst (v := 4) dX9_init_159 (by decide) ?_
  refine E_ldc2 dX9_init_160 rfl cn_X9_65 ?_
  refine E_last h dX9_init_163 (fun h => ?_)
  refine E_oU h (fun u50 h => ?_)
  refine E_dup dX9_init_164 rfl ?_
  refine E_iconst (v := 5) dX9_init_165 (by decide) ?_
  refine E_ldc2 dX9_init_166 rfl cn_X9_67 ?_
  refine E_last h dX9_init_169 (fun h => ?_)
  refine E_oU h (fun u51 h => ?_)
  refine E_dup dX9_init_170 rfl ?_
  refine E_bipush (v := 6) dX9_init_171 (by decide) ?_
  refine E_ldc2 dX9_init_173 rfl cn_X9_69 ?_
  refine E_last h dX9_init_176 (fun h => ?_)
  refine E_oU h (fun u52 h => ?_)
  refine E_dup dX9_init_177 rfl ?_
  refine E_bipush (v := 7) dX9_init_178 (by decide) ?_
  refine E_ldc2 dX9_init_180 rfl cn_X9_71 ?_
  refine E_last h dX9_init_183 (fun h => ?_)
  refine E_oU h (fun u53 h => ?_)
  refine E_dup dX9_init_184 rfl ?_
  refine E_bipush (v := 8) dX9_init_185 (by decide) ?_
  refine E_ldc2 dX9_init_187 rfl cn_X9_73 ?_
  refine E_last h dX9_init_190 (fun h => ?_)
  refine E_oU h (fun u54 h => ?_)
  refine E_dup dX9_init_191 rfl ?_
  refine E_bipush (v := 9) dX9_init_192 (by decide) ?_
  refine E_ldc2 dX9_init_194 rfl cn_X9_75 ?_
  refine E_last h dX9_init_197 (fun h => ?_)
  refine E_oU h (fun u55 h => ?_)
  refine E_putR h dX9_init_198 cf9 lk_X9_77 (by decide) (Or.inr ⟨rfl, rfl, rfl, lkm_X9_77⟩) (Or.inr ⟨_, rfl⟩) (fun h => ?_)
  refine E_oU h (fun u56 h => ?_)
  refine E_aload_n dX9_init_201 rfl rfl ?_
  refine E_bipush (v := 6) dX9_init_202 (by decide) ?_
  refine E_newL h dX9_init_204 aw_long (by decide) (kc' := 9) (ks' := 609) rfl rfl (fun h => ?_)
  refine E_oP h (fun e57 h => ?_)
  refine E_oU h (fun u58 h => ?_)
  refine E_dup dX9_init_206 rfl ?_
  refine E_iconst (v := 0) dX9_init_207 (by decide) ?_
  refine E_ldc2 dX9_init_208 rfl cn_X9_73 ?_
  refine E_last h dX9_init_211 (fun h => ?_)
  refine E_oU h (fun u59 h => ?_)
  refine E_dup dX9_init_212 rfl ?_
  refine E_iconst (v := 1) dX9_init_213 (by decide) ?_
  refine E_ldc2 dX9_init_214 rfl cn_X9_81 ?_
  refine E_last h dX9_init_217 (fun h => ?_)
  refine E_oU h (fun u60 h => ?_)
  refine E_dup dX9_init_218 rfl ?_
  refine E_iconst (v := 2) dX9_init_219 (by decide) ?_
  refine E_ldc2 dX9_init_220 rfl cn_X9_83 ?_
  refine E_last h dX9_init_223 (fun h => ?_)
  refine E_oU h (fun u61 h => ?_)
  refine E_dup dX9_init_224 rfl ?_
  refine E_iconst (v := 3) dX9_init_225 (by decide) ?_
  refine E_ldc2 dX9_init_226 rfl cn_X9_61 ?_
  refine E_last h dX9_init_229 (fun h => ?_)
  refine E_oU h (fun u62 h => ?_)
  refine E_dup dX9_init_230 rfl ?_
  refine E_iconst (v := 4) dX9_init_231 (by decide) ?_
  refine E_ldc2 dX9_init_232 rfl cn_X9_67 ?_
  refine E_last h dX9_init_235 (fun h => ?_)
  refine E_oU h (fun u63 h => ?_)
  refine E_dup dX9_init_236 rfl ?_
  refine E_iconst (v := 5) dX9_init_237 (by decide) ?_
  refine E_ldc2 dX9_init_238 rfl cn_X9_69 ?_
  refine E_last h dX9_init_241 (fun h => ?_)
  refine E_oU h (fun u64 h => ?_)
  refine E_putR h dX9_init_242 cf9 lk_X9_85 (by decide) (Or.inr ⟨rfl, rfl, rfl, lkm_X9_85⟩) (Or.inr ⟨_, rfl⟩) (fun h => ?_)
  refine E_oU h (fun u65 h => ?_)
  refine E_aload_n dX9_init_245 rfl rfl ?_
  refine E_iconst (v := 4) dX9_init_246 (by decide) ?_
  refine E_newL h dX9_init_247 aw_long (by decide) (kc' := 8) (ks' := 605) rfl rfl (fun h => ?_)
  refine E_oP h (fun e66 h => ?_)
  refine E_oU h (fun u67 h => ?_)
  refine E_dup dX9_init_249 rfl ?_
  refine E_iconst (v := 0) dX9_init_250 (by decide) ?_
  refine E_ldc2 dX9_init_251 rfl cn_X9_88 ?_
  refine E_last h dX9_init_254 (fun h => ?_)
  refine E_oU h (fun u68 h => ?_)
  refine E_dup dX9_init_255 rfl ?_
  refine E_iconst (v := 1) dX9_init_256 (by decide) ?_
  refine E_ldc2 dX9_init_257 rfl cn_X9_90 ?_
  refine E_last h dX9_init_260 (fun h => ?_)
  refine E_oU h (fun u69 h => ?_)
  refine E_dup dX9_init_261 rfl ?_
  refine E_iconst (v := 2) dX9_init_262 (by decide) ?_
  refine E_ldc2 dX9_init_263 rfl cn_X9_92 ?_
  refine E_last h dX9_init_266 (fun h => ?_)
  refine E_oU h (fun u70 h => ?_)
  refine E_dup dX9_init_267 rfl ?_
  refine E_iconst (v := 3) dX9_init_268 (by decide) ?_
  refine E_ldc2 dX9_init_269 rfl cn_X9_94 ?_
  refine E_last h dX9_init_272 (fun h => ?_)
  refine E_oU h (fun u71 h => ?_)
  refine E_putR h dX9_init_273 cf9 lk_X9_96 (by decide) (Or.inr ⟨rfl, rfl, rfl, lkm_X9_96⟩) (Or.inr ⟨_, rfl⟩) (fun h => ?_)
  refine E_oU h (fun u72 h => ?_)
  refine E_aload_n dX9_init_276 rfl rfl ?_
  refine E_bipush (v := 13) dX9_init_277 (by decide) ?_
  refine E_newL h dX9_init_279 aw_long (by decide) (kc' := 7) (ks' := 592) rfl rfl (fun h => ?_)
  refine E_oP h (fun e73 h => ?_)
  refine E_oU h (fun u74 h => ?_)
  refine E_putR h dX9_init_281 cf9 lk_X9_99 (by decide) (Or.inr ⟨rfl, rfl, rfl, lkm_X9_99⟩) (Or.inr ⟨_, rfl⟩) (fun h => ?_)
  refine E_oU h (fun u75 h => ?_)
  refine E_aload_n dX9_init_284 rfl rfl ?_
  refine E_bipush (v := 13) dX9_init_285 (by decide) ?_
  refine E_newL h dX9_init_287 aw_long (by decide) (kc' := 6) (ks' := 579) rfl rfl (fun h => ?_)
  refine E_oP h (fun e76 h => ?_)
  refine E_oU h (fun u77 h => ?_)
  refine E_putR h dX9_init_289 cf9 lk_X9_102 (by decide) (Or.inr ⟨rfl, rfl, rfl, lkm_X9_102⟩) (Or.inr ⟨_, rfl⟩) (fun h => ?_)
  refine E_oU h (fun u78 h => ?_)
  refine E_aload_n dX9_init_292 rfl rfl ?_
  refine E_sipush (v := 400) dX9_init_293 (by decide) ?_
  refine E_newL h dX9_init_296 aw_long (by decide) (kc' := 5) (ks' := 179) rfl rfl (fun h => ?_)
  refine E_oP h (fun e79 h => ?_)
  refine E_oU h (fun u80 h => ?_)
  refine E_putR h dX9_init_298 cf9 lk_X9_105 (by decide) (Or.inr ⟨rfl, rfl, rfl, lkm_X9_105⟩) (Or.inr ⟨_, rfl⟩) (fun h => ?_)
  refine E_oU h (fun u81 h => ?_)
  refine E_aload_n dX9_init_301 rfl rfl ?_
  refine E_bipush (v := 16) dX9_init_302 (by decide) ?_
  refine E_newZ h dX9_init_304 aw_boolean (by decide) (kc' := 4) (ks' := 163) rfl rfl (fun h => ?_)
  refine E_oP h (fun e82 h => ?_)
  refine E_oU h (fun u83 h => ?_)
  refine E_putR h dX9_init_306 cf9 lk_X9_108 (by decide) (Or.inr ⟨rfl, rfl, rfl, lkm_X9_108⟩) (Or.inr ⟨_, rfl⟩) (fun h => ?_)
  refine E_oU h (fun u84 h => ?_)
  refine E_aload_n dX9_init_309 rfl rfl ?_
  refine E_bipush (v := 8) dX9_init_310 (by decide) ?_
  refine E_newI h dX9_init_312 aw_int (by decide) (kc' := 3) (ks' := 155) rfl rfl (fun h => ?_)
  refine E_oP h (fun e85 h => ?_)
  refine E_oU h (fun u86 h => ?_)
  refine E_putR h dX9_init_314 cf9 lk_X9_111 (by decide) (Or.inr ⟨rfl, rfl, rfl, lkm_X9_111⟩) (Or.inr ⟨_, rfl⟩) (fun h => ?_)
  refine E_oU h (fun u87 h => ?_)
  refine E_aload_n dX9_init_317 rfl rfl ?_
  refine E_iconst (v := 4) dX9_init_318 (by decide) ?_
  refine E_newL h dX9_init_319 aw_long (by decide) (kc' := 2) (ks' := 151) rfl rfl (fun h => ?_)
  refine E_oP h (fun e88 h => ?_)
  refine E_oU h (fun u89 h => ?_)
  refine E_dup dX9_init_321 rfl ?_
  refine E_iconst (v := 0) dX9_init_322 (by decide) ?_
  refine E_ldc2 dX9_init_323 rfl cn_X9_114 ?_
  refine E_last h dX9_init_326 (fun h => ?_)
  refine E_oU h (fun u90 h => ?_)
  refine E_dup dX9_init_327 rfl ?_
  refine E_iconst (v := 1) dX9_init_328 (by decide) ?_
  refine E_ldc2 dX9_init_329 rfl cn_X9_116 ?_
  refine E_last h dX9_init_332 (fun h => ?_)
  refine E_oU h (fun u91 h => ?_)
  refine E_dup dX9_init_333 rfl ?_
  refine E_iconst (v := 2) dX9_init_334 (by decide) ?_
  refine E_ldc2 dX9_init_335 rfl cn_X9_118 ?_
  refine E_last h dX9_init_338 (fun h => ?_)
  refine E_oU h (fun u92 h => ?_)
  refine E_dup dX9_init_339 rfl ?_
  refine E_iconst (v := 3) dX9_init_340 (by decide) ?_
  refine E_ldc2 dX9_init_341 rfl cn_X9_120 ?_
  refine E_last h dX9_init_344 (fun h => ?_)
  refine E_oU h (fun u93 h => ?_)
  refine E_putR h dX9_init_345 cf9 lk_X9_122 (by decide) (Or.inr ⟨rfl, rfl, rfl, lkm_X9_122⟩) (Or.inr ⟨_, rfl⟩) (fun h => ?_)
  refine E_oU h (fun u94 h => ?_)
  refine E_aload_n dX9_init_348 rfl rfl ?_
  refine E_bipush (v := 120) dX9_init_349 (by decide) ?_
  refine E_newI h dX9_init_351 aw_int (by decide) (kc' := 1) (ks' := 31) rfl rfl (fun h => ?_)
  refine E_oP h (fun e95 h => ?_)
  refine E_oU h (fun u96 h => ?_)
  refine E_putR h dX9_init_353 cf9 lk_X9_125 (by decide) (Or.inr ⟨rfl, rfl, rfl, lkm_X9_125⟩) (Or.inr ⟨_, rfl⟩) (fun h => ?_)
  refine E_oU h (fun u97 h => ?_)
  refine E_aload_n dX9_init_356 rfl rfl ?_
  refine E_iconst (v := (-1)) dX9_init_357 (by decide) ?_
  refine E_putI h dX9_init_358 cf9 lk_X9_128 (by decide) (Or.inl rfl) rfl (fun h => ?_)
  refine E_oU h (fun u98 h => ?_)
  refine E_aload_n dX9_init_361 rfl rfl ?_
  refine E_bipush (v := 31) dX9_init_362 (by decide) ?_
  refine E_newI h dX9_init_364 aw_int (by decide) (kc' := 0) (ks' := 0) rfl rfl (fun h => ?_)
  refine E_oP h (fun e99 h => ?_)
  refine E_oU h (fun u100 h => ?_)
  refine E_putR h dX9_init_366 cf9 lk_X9_131 (by decide) (Or.inr ⟨rfl, rfl, rfl, lkm_X9_131⟩) (Or.inr ⟨_, rfl⟩) (fun h => ?_)
  refine E_oU h (fun u101 h => ?_)
  refine E_aload_n dX9_init_369 rfl rfl ?_
  refine E_getA h dX9_init_370 cf9 lk_X9_13 (by decide) (fun _ _ _ => rfl) (fun e102 h => ?_)
  refine E_iconst (v := 3) dX9_init_373 (by decide) ?_
  refine E_iconst (v := (-1)) dX9_init_374 (by decide) ?_
  refine E_iast h dX9_init_375 (fun h => ?_)
  refine E_oU h (fun u103 h => ?_)
  refine E_aload_n dX9_init_376 rfl rfl ?_
  refine E_getA h dX9_init_377 cf9 lk_X9_13 (by decide) (fun _ _ _ => rfl) (fun e104 h => ?_)
  refine E_iconst (v := 5) dX9_init_380 (by decide) ?_
  refine E_iconst (v := 3) dX9_init_381 (by decide) ?_
  refine E_iast h dX9_init_382 (fun h => ?_)
  refine E_oU h (fun u105 h => ?_)
  refine E_iconst (v := 0) dX9_init_383 (by decide) ?_
  refine E_istore_n (l' := [(1, .int 0), (0, .ref a0)]) dX9_init_384 rfl (Nat.le_of_ble_eq_true rfl) rfl ?_
  refine Eg.pick [1, 0] rfl ?_
  exact prX9_init_385 _ _ _ _ h
