/-! ===== methods as functions, with their contracts (printed by program) ===== -/
def bX8_reads_63 (u : Mm) (s0 : Int32) : Option (Int32 × Mm) := some (s0, u)
set_option maxRecDepth 100000 in
set_option maxHeartbeats 4000000 in
theorem pX8_reads_63 {r : Int32} {u' : Mm} (u : Mm) (s0 : Int32) (h : bX8_reads_63 u s0 = some (r, u')) : Eg MX8_reads 4 0 0 (some (.int r), u') 63 [] [.int s0] u := by
  unfold bX8_reads_63 at h
  exact E_iret h dX8_reads_63 rfl
def fX8_reads (u : Mm) (a0 : Nat) (x1 : Int32) (x2 : Int32) (x3 : Int32) : Option (Int32 × Mm) := oB (fX8_isSign u x1) (fun v1 u2 => (if (v1 : Int32) = 0 then some ((-1000), u2) else oB (fX8_isSide u2 x2) (fun v3 u4 => (if (v3 : Int32) = 0 then some ((-1000), u4) else oB (fX8_within u4 x3 0 1) (fun v5 u6 => (if (v5 : Int32) = 0 then some ((-1000), u6) else (if (x3 : Int32) = 0 then oK u6 a0 8 19 (oNn (mR u6 a0 1) (fun e12 => oK u6 a0 8 19 (oNn (mR u6 a0 0) (fun e13 => oK u6 e13 0 16 (oNn (mR u6 e13 0) (fun e14 => oR u6 e12 7 (oB (fX7_readingOf u6 e12 e14 x1 x2) (fun v15 u16 => bX8_reads_63 u16 v15)))))))) else oK u6 a0 8 19 (oNn (mR u6 a0 0) (fun e7 => oK u6 e7 0 16 (oNn (mR u6 e7 2) (fun e8 => oB (fX8_pair u6 x1 x2) (fun v9 u10 => oA u10 e8 10 v9 (oI (mI u10 e8 (Int32.toNatClampNeg v9)) (fun v11 => bX8_reads_63 u10 v11))))))))))))))
set_option maxRecDepth 100000 in
set_option maxHeartbeats 4000000 in
theorem tX8_reads {u : Mm} {a0 : Nat} {x1 : Int32} {x2 : Int32} {x3 : Int32} {r : Int32} {u' : Mm} (h : fX8_reads u a0 x1 x2 x3 = some (r, u')) : Ev 4 MX8_reads 0 0 [.ref a0, .int x1, .int x2, .int x3] u (some (.int r), u') := by
  refine Ev.of (by decide +kernel) (Nat.le_of_ble_eq_true rfl) (show Eg MX8_reads 4 0 0 (some (.int r), u') 0 [(0, .ref a0), (1, .int x1), (2, .int x2), (3, .int x3)] [] u from ?_)
  unfold fX8_reads at h
  refine E_iload_n dX8_reads_0 rfl rfl ?_
  refine F_Si h (fun a m e => tX8_isSign e) dX8_reads_1 hm_X8_isSign hs_X8_isSign ln_X8_145 rfl rfl (Nat.le_of_ble_eq_true rfl) (Nat.le_of_ble_eq_true rfl) (kc' := 0) (ks' := 0) rfl rfl (fun v1 u2 h => ?_)
  refine E_if_eq (tgt := 23) h dX8_reads_4 (by decide) (fun h => ?_) (fun h => ?_)
  · refine E_sipush (v := (-1000)) dX8_reads_23 (by decide) ?_
    exact E_iret h dX8_reads_26 rfl
  · refine E_iload_n dX8_reads_7 rfl rfl ?_
    refine F_Si h (fun a m e => tX8_isSide e) dX8_reads_8 hm_X8_isSide hs_X8_isSide ln_X8_85 rfl rfl (Nat.le_of_ble_eq_true rfl) (Nat.le_of_ble_eq_true rfl) (kc' := 0) (ks' := 0) rfl rfl (fun v3 u4 h => ?_)
    refine E_if_eq (tgt := 23) h dX8_reads_11 (by decide) (fun h => ?_) (fun h => ?_)
    · refine E_sipush (v := (-1000)) dX8_reads_23 (by decide) ?_
      exact E_iret h dX8_reads_26 rfl
    · refine E_iload_n dX8_reads_14 rfl rfl ?_
      refine E_iconst (v := 0) dX8_reads_15 (by decide) ?_
      refine E_iconst (v := 1) dX8_reads_16 (by decide) ?_
      refine F_Si h (fun a m e => tX8_within e) dX8_reads_17 hm_X8_within hs_X8_within ln_X8_92 rfl rfl (Nat.le_of_ble_eq_true rfl) (Nat.le_of_ble_eq_true rfl) (kc' := 0) (ks' := 0) rfl rfl (fun v5 u6 h => ?_)
      refine E_if_ne (tgt := 27) h dX8_reads_20 (by decide) (fun h => ?_) (fun h => ?_)
      · refine E_iload_n dX8_reads_27 rfl rfl ?_
        refine E_if_ne (tgt := 50) h dX8_reads_28 (by decide) (fun h => ?_) (fun h => ?_)
        · refine E_aload_n dX8_reads_50 rfl rfl ?_
          refine E_getA h dX8_reads_51 cf8 lk_X8_10 (by decide) (fun _ _ _ => rfl) (fun e7 h => ?_)
          refine E_getA h dX8_reads_54 cf0 lk_X8_148 (by decide) (fun _ _ _ => rfl) (fun e8 h => ?_)
          refine E_iload_n dX8_reads_57 rfl rfl ?_
          refine E_iload_n dX8_reads_58 rfl rfl ?_
          refine F_Si h (fun a m e => tX8_pair e) dX8_reads_59 hm_X8_pair hs_X8_pair ln_X8_154 rfl rfl (Nat.le_of_ble_eq_true rfl) (Nat.le_of_ble_eq_true rfl) (kc' := 0) (ks' := 0) rfl rfl (fun v9 u10 h => ?_)
          refine E_iald h dX8_reads_62 (fun h => ?_)
          refine E_oI h (fun v11 h => ?_)
          refine Eg.pick [] rfl ?_
          exact pX8_reads_63 _ _ h
        · refine E_aload_n dX8_reads_31 rfl rfl ?_
          refine E_getA h dX8_reads_32 cf8 lk_X8_21 (by decide) (fun _ _ _ => rfl) (fun e12 h => ?_)
          refine E_aload_n dX8_reads_35 rfl rfl ?_
          refine E_getA h dX8_reads_36 cf8 lk_X8_10 (by decide) (fun _ _ _ => rfl) (fun e13 h => ?_)
          refine E_getA h dX8_reads_39 cf0 lk_X8_100 (by decide) (fun _ _ _ => rfl) (fun e14 h => ?_)
          refine E_iload_n dX8_reads_42 rfl rfl ?_
          refine E_iload_n dX8_reads_43 rfl rfl ?_
          refine F_Vi h (fun a m e => tX7_readingOf e) dX8_reads_44 hm_X7_readingOf hv_X7_readingOf ln_X8_157 rfl rfl (Nat.le_of_ble_eq_true rfl) (Nat.le_of_ble_eq_true rfl) (kc' := 0) (ks' := 0) rfl rfl (fun v15 u16 h => ?_)
          refine E_goto (tgt := 63) dX8_reads_47 (by decide) ?_
          refine Eg.pick [] rfl ?_
          exact pX8_reads_63 _ _ h
      · refine E_sipush (v := (-1000)) dX8_reads_23 (by decide) ?_
        exact E_iret h dX8_reads_26 rfl
def bX8_word_67 (u : Mm) (a0 : Nat) : Option (Int32 × Mm) := oR u a0 8 (oB (fX8_refuse u a0 ((-1))) (fun v5 u6 => some (v5, u6)))
set_option maxRecDepth 100000 in
set_option maxHeartbeats 4000000 in
theorem pX8_word_67 {r : Int32} {u' : Mm} (u : Mm) (a0 : Nat) (h : bX8_word_67 u a0 = some (r, u')) : Eg MX8_word 2 0 0 (some (.int r), u') 67 [(0, .ref a0)] [] u := by
  unfold bX8_word_67 at h
  refine E_aload_n dX8_word_67 rfl rfl ?_
  refine E_iconst (v := (-1)) dX8_word_68 (by decide) ?_
  refine F_Vi h (fun a m e => tX8_refuse e) dX8_word_69 hm_X8_refuse hv_X8_refuse ln_X8_96 rfl rfl (Nat.le_of_ble_eq_true rfl) (Nat.le_of_ble_eq_true rfl) (kc' := 0) (ks' := 0) rfl rfl (fun v5 u6 h => ?_)
  exact E_iret h dX8_word_72 rfl
def bX8_word_95 (u : Mm) (a0 : Nat) (x1 : Int32) (x2 : Int32) (x4 : Int32) (s0 : Nat) : Option (Int32 × Mm) := oB (fX8_pair u x1 x2) (fun v13 u14 => oA u14 s0 10 v13 (oU (wI u14 s0 (upd (mI u14 s0) (Int32.toNatClampNeg v13) x4)) (fun u15 => oR u15 a0 8 (oB (fX8_accept u15 a0 0) (fun v16 u17 => some (v16, u17))))))
set_option maxRecDepth 100000 in
set_option maxHeartbeats 4000000 in
theorem pX8_word_95 {r : Int32} {u' : Mm} (u : Mm) (a0 : Nat) (x1 : Int32) (x2 : Int32) (x4 : Int32) (s0 : Nat) (h : bX8_word_95 u a0 x1 x2 x4 s0 = some (r, u')) : Eg MX8_word 2 0 0 (some (.int r), u') 95 [(0, .ref a0), (1, .int x1), (2, .int x2), (4, .int x4)] [.ref s0] u := by
  unfold bX8_word_95 at h
  refine E_astore (l' := [(7, .ref s0), (0, .ref a0), (1, .int x1), (2, .int x2), (4, .int x4)]) dX8_word_95 (Nat.le_of_ble_eq_true rfl) rfl ?_
  refine E_aload dX8_word_97 rfl ?_
  refine E_iload_n dX8_word_99 rfl rfl ?_
  refine E_iload_n dX8_word_100 rfl rfl ?_
  refine F_Si h (fun a m e => tX8_pair e) dX8_word_101 hm_X8_pair hs_X8_pair ln_X8_154 rfl rfl (Nat.le_of_ble_eq_true rfl) (Nat.le_of_ble_eq_true rfl) (kc' := 0) (ks' := 0) rfl rfl (fun v13 u14 h => ?_)
  refine E_iload dX8_word_104 rfl ?_
  refine E_iast h dX8_word_106 (fun h => ?_)
  refine E_oU h (fun u15 h => ?_)
  refine E_aload_n dX8_word_107 rfl rfl ?_
  refine E_iconst (v := 0) dX8_word_108 (by decide) ?_
  refine F_Vi h (fun a m e => tX8_accept e) dX8_word_109 hm_X8_accept hv_X8_accept ln_X8_114 rfl rfl (Nat.le_of_ble_eq_true rfl) (Nat.le_of_ble_eq_true rfl) (kc' := 0) (ks' := 0) rfl rfl (fun v16 u17 h => ?_)
  exact E_iret h dX8_word_112 rfl
def bX8_word_37 (u : Mm) (a0 : Nat) (x1 : Int32) (x2 : Int32) (x3 : Int32) (x4 : Int32) (x5 : Int32) (s0 : Int32) : Option (Int32 × Mm) := oB (fX8_isWord u x1) (fun v3 u4 => (if (v3 : Int32) = 0 then bX8_word_67 u4 a0 else oB (fX8_isSide u4 x2) (fun v7 u8 => (if (v7 : Int32) = 0 then bX8_word_67 u8 a0 else oB (fX8_within u8 x3 0 1) (fun v9 u10 => (if (v9 : Int32) = 0 then bX8_word_67 u10 a0 else (if (s0 : Int32) = 0 then bX8_word_67 u10 a0 else (if (x5 : Int32) = 0 then oK u10 a0 8 19 (oNn (mR u10 a0 0) (fun e11 => oK u10 e11 0 16 (oNn (mR u10 e11 3) (fun e12 => bX8_word_95 u10 a0 x1 x2 x4 e12)))) else oK u10 a0 8 19 (oNn (mR u10 a0 0) (fun e18 => oK u10 e18 0 16 (oNn (mR u10 e18 4) (fun e19 => bX8_word_95 u10 a0 x1 x2 x4 e19))))))))))))
set_option maxRecDepth 100000 in
set_option maxHeartbeats 4000000 in
theorem pX8_word_37 {r : Int32} {u' : Mm} (u : Mm) (a0 : Nat) (x1 : Int32) (x2 : Int32) (x3 : Int32) (x4 : Int32) (x5 : Int32) (s0 : Int32) (h : bX8_word_37 u a0 x1 x2 x3 x4 x5 s0 = some (r, u')) : Eg MX8_word 2 0 0 (some (.int r), u') 37 [(0, .ref a0), (1, .int x1), (2, .int x2), (3, .int x3), (4, .int x4), (5, .int x5)] [.int s0] u := by
  unfold bX8_word_37 at h
  refine E_istore (l' := [(6, .int s0), (0, .ref a0), (1, .int x1), (2, .int x2), (3, .int x3), (4, .int x4), (5, .int x5)]) dX8_word_37 (Nat.le_of_ble_eq_true rfl) rfl ?_
  refine E_iload_n dX8_word_39 rfl rfl ?_
  refine F_Si h (fun a m e => tX8_isWord e) dX8_word_40 hm_X8_isWord hs_X8_isWord ln_X8_161 rfl rfl (Nat.le_of_ble_eq_true rfl) (Nat.le_of_ble_eq_true rfl) (kc' := 0) (ks' := 0) rfl rfl (fun v3 u4 h => ?_)
  refine E_if_eq (tgt := 67) h dX8_word_43 (by decide) (fun h => ?_) (fun h => ?_)
  · refine Eg.pick [1] rfl ?_
    exact pX8_word_67 _ _ h
  · refine E_iload_n dX8_word_46 rfl rfl ?_
    refine F_Si h (fun a m e => tX8_isSide e) dX8_word_47 hm_X8_isSide hs_X8_isSide ln_X8_85 rfl rfl (Nat.le_of_ble_eq_true rfl) (Nat.le_of_ble_eq_true rfl) (kc' := 0) (ks' := 0) rfl rfl (fun v7 u8 h => ?_)
    refine E_if_eq (tgt := 67) h dX8_word_50 (by decide) (fun h => ?_) (fun h => ?_)
    · refine Eg.pick [1] rfl ?_
      exact pX8_word_67 _ _ h
    · refine E_iload_n dX8_word_53 rfl rfl ?_
      refine E_iconst (v := 0) dX8_word_54 (by decide) ?_
      refine E_iconst (v := 1) dX8_word_55 (by decide) ?_
      refine F_Si h (fun a m e => tX8_within e) dX8_word_56 hm_X8_within hs_X8_within ln_X8_92 rfl rfl (Nat.le_of_ble_eq_true rfl) (Nat.le_of_ble_eq_true rfl) (kc' := 0) (ks' := 0) rfl rfl (fun v9 u10 h => ?_)
      refine E_if_eq (tgt := 67) h dX8_word_59 (by decide) (fun h => ?_) (fun h => ?_)
      · refine Eg.pick [1] rfl ?_
        exact pX8_word_67 _ _ h
      · refine E_iload dX8_word_62 rfl ?_
        refine E_if_ne (tgt := 73) h dX8_word_64 (by decide) (fun h => ?_) (fun h => ?_)
        · refine E_iload dX8_word_73 rfl ?_
          refine E_if_eq (tgt := 88) h dX8_word_75 (by decide) (fun h => ?_) (fun h => ?_)
          · refine E_aload_n dX8_word_88 rfl rfl ?_
            refine E_getA h dX8_word_89 cf8 lk_X8_10 (by decide) (fun _ _ _ => rfl) (fun e11 h => ?_)
            refine E_getA h dX8_word_92 cf0 lk_X8_167 (by decide) (fun _ _ _ => rfl) (fun e12 h => ?_)
            refine Eg.pick [1, 2, 3, 5] rfl ?_
            exact pX8_word_95 _ _ _ _ _ _ h
          · refine E_aload_n dX8_word_78 rfl rfl ?_
            refine E_getA h dX8_word_79 cf8 lk_X8_10 (by decide) (fun _ _ _ => rfl) (fun e18 h => ?_)
            refine E_getA h dX8_word_82 cf0 lk_X8_164 (by decide) (fun _ _ _ => rfl) (fun e19 h => ?_)
            refine E_goto (tgt := 95) dX8_word_85 (by decide) ?_
            refine Eg.pick [1, 2, 3, 5] rfl ?_
            exact pX8_word_95 _ _ _ _ _ _ h
        · refine Eg.pick [1] rfl ?_
          exact pX8_word_67 _ _ h
def bX8_word_10 (u : Mm) (a0 : Nat) (x1 : Int32) (x2 : Int32) (x3 : Int32) (x4 : Int32) (s0 : Int32) : Option (Int32 × Mm) := (if (s0 : Int32) = 0 then oB (fX8_within u x4 ((-9)) 9) (fun v1 u2 => bX8_word_37 u2 a0 x1 x2 x3 x4 s0 v1) else oB (fX8_within u x4 0 10) (fun v20 u21 => bX8_word_37 u21 a0 x1 x2 x3 x4 s0 v20))
set_option maxRecDepth 100000 in
set_option maxHeartbeats 4000000 in
theorem pX8_word_10 {r : Int32} {u' : Mm} (u : Mm) (a0 : Nat) (x1 : Int32) (x2 : Int32) (x3 : Int32) (x4 : Int32) (s0 : Int32) (h : bX8_word_10 u a0 x1 x2 x3 x4 s0 = some (r, u')) : Eg MX8_word 2 0 0 (some (.int r), u') 10 [(0, .ref a0), (1, .int x1), (2, .int x2), (3, .int x3), (4, .int x4)] [.int s0] u := by
  unfold bX8_word_10 at h
  refine E_istore (l' := [(5, .int s0), (0, .ref a0), (1, .int x1), (2, .int x2), (3, .int x3), (4, .int x4)]) dX8_word_10 (Nat.le_of_ble_eq_true rfl) rfl ?_
  refine E_iload dX8_word_12 rfl ?_
  refine E_if_eq (tgt := 28) h dX8_word_14 (by decide) (fun h => ?_) (fun h => ?_)
  · refine E_iload dX8_word_28 rfl ?_
    refine E_bipush (v := (-9)) dX8_word_30 (by decide) ?_
    refine E_bipush (v := 9) dX8_word_32 (by decide) ?_
    refine F_Si h (fun a m e => tX8_within e) dX8_word_34 hm_X8_within hs_X8_within ln_X8_92 rfl rfl (Nat.le_of_ble_eq_true rfl) (Nat.le_of_ble_eq_true rfl) (kc' := 0) (ks' := 0) rfl rfl (fun v1 u2 h => ?_)
    refine Eg.pick [1, 2, 3, 4, 5, 0] rfl ?_
    exact pX8_word_37 _ _ _ _ _ _ _ _ h
  · refine E_iload dX8_word_17 rfl ?_
    refine E_iconst (v := 0) dX8_word_19 (by decide) ?_
    refine E_bipush (v := 10) dX8_word_20 (by decide) ?_
    refine F_Si h (fun a m e => tX8_within e) dX8_word_22 hm_X8_within hs_X8_within ln_X8_92 rfl rfl (Nat.le_of_ble_eq_true rfl) (Nat.le_of_ble_eq_true rfl) (kc' := 0) (ks' := 0) rfl rfl (fun v20 u21 h => ?_)
    refine E_goto (tgt := 37) dX8_word_25 (by decide) ?_
    refine Eg.pick [1, 2, 3, 4, 5, 0] rfl ?_
    exact pX8_word_37 _ _ _ _ _ _ _ _ h
def fX8_word (u : Mm) (a0 : Nat) (x1 : Int32) (x2 : Int32) (x3 : Int32) (x4 : Int32) : Option (Int32 × Mm) := (if (x3 : Int32) = 1 then bX8_word_10 u a0 x1 x2 x3 x4 1 else bX8_word_10 u a0 x1 x2 x3 x4 0)
set_option maxRecDepth 100000 in
set_option maxHeartbeats 4000000 in
theorem tX8_word {u : Mm} {a0 : Nat} {x1 : Int32} {x2 : Int32} {x3 : Int32} {x4 : Int32} {r : Int32} {u' : Mm} (h : fX8_word u a0 x1 x2 x3 x4 = some (r, u')) : Ev 2 MX8_word 0 0 [.ref a0, .int x1, .int x2, .int x3, .int x4] u (some (.int r), u') := by
  refine Ev.of (by decide +kernel) (Nat.le_of_ble_eq_true rfl) (show Eg MX8_word 2 0 0 (some (.int r), u') 0 [(0, .ref a0), (1, .int x1), (2, .int x2), (3, .int x3), (4, .int x4)] [] u from ?_)
  unfold fX8_word at h
  refine E_iload_n dX8_word_0 rfl rfl ?_
  refine E_iconst (v := 1) dX8_word_1 (by decide) ?_
  refine E_ic_ne (tgt := 9) h dX8_word_2 (by decide) (fun h => ?_) (fun h => ?_)
  · refine E_iconst (v := 0) dX8_word_9 (by decide) ?_
    refine Eg.pick [0, 1, 2, 3, 4] rfl ?_
    exact pX8_word_10 _ _ _ _ _ _ _ h
  · refine E_iconst (v := 1) dX8_word_5 (by decide) ?_
    refine E_goto (tgt := 10) dX8_word_6 (by decide) ?_
    refine Eg.pick [0, 1, 2, 3, 4] rfl ?_
    exact pX8_word_10 _ _ _ _ _ _ _ h
def bX8_terms_22 (u : Mm) (a0 : Nat) : Option (Int32 × Mm) := oR u a0 8 (oB (fX8_refuse u a0 ((-1))) (fun v4 u5 => some (v4, u5)))
set_option maxRecDepth 100000 in
set_option maxHeartbeats 4000000 in
theorem pX8_terms_22 {r : Int32} {u' : Mm} (u : Mm) (a0 : Nat) (h : bX8_terms_22 u a0 = some (r, u')) : Eg MX8_terms 2 0 0 (some (.int r), u') 22 [(0, .ref a0)] [] u := by
  unfold bX8_terms_22 at h
  refine E_aload_n dX8_terms_22 rfl rfl ?_
  refine E_iconst (v := (-1)) dX8_terms_23 (by decide) ?_
  refine F_Vi h (fun a m e => tX8_refuse e) dX8_terms_24 hm_X8_refuse hv_X8_refuse ln_X8_96 rfl rfl (Nat.le_of_ble_eq_true rfl) (Nat.le_of_ble_eq_true rfl) (kc' := 0) (ks' := 0) rfl rfl (fun v4 u5 h => ?_)
  exact E_iret h dX8_terms_27 rfl
def fX8_terms (u : Mm) (a0 : Nat) (x1 : Int32) (x2 : Int32) : Option (Int32 × Mm) := oK u a0 8 19 (oNn (mR u a0 0) (fun e1 => oR u e1 0 (oB (fX0_termOf u e1 x1) (fun v2 u3 => (if (v2 : Int32) = ((-1)) then bX8_terms_22 u3 a0 else oB (fX0_termFits u3 x1 x2) (fun v6 u7 => (if (v6 : Int32) = 0 then bX8_terms_22 u7 a0 else oK u7 a0 8 19 (oNn (mR u7 a0 0) (fun e8 => oR u7 e8 0 (oB (fX0_setTerm u7 e8 x1 x2) (fun _ u9 => oK u9 a0 8 19 (oNn (mR u9 a0 5) (fun e10 => oR u9 e10 3 (oB (fX3_clear u9 e10) (fun _ u11 => oR u11 a0 8 (oB (fX8_accept u11 a0 v2) (fun v12 u13 => some (v12, u13))))))))))))))))))
set_option maxRecDepth 100000 in
set_option maxHeartbeats 4000000 in
theorem tX8_terms {u : Mm} {a0 : Nat} {x1 : Int32} {x2 : Int32} {r : Int32} {u' : Mm} (h : fX8_terms u a0 x1 x2 = some (r, u')) : Ev 2 MX8_terms 0 0 [.ref a0, .int x1, .int x2] u (some (.int r), u') := by
  refine Ev.of (by decide +kernel) (Nat.le_of_ble_eq_true rfl) (show Eg MX8_terms 2 0 0 (some (.int r), u') 0 [(0, .ref a0), (1, .int x1), (2, .int x2)] [] u from ?_)
  unfold fX8_terms at h
  refine E_aload_n dX8_terms_0 rfl rfl ?_
  refine E_getA h dX8_terms_1 cf8 lk_X8_10 (by decide) (fun _ _ _ => rfl) (fun e1 h => ?_)
  refine E_iload_n dX8_terms_4 rfl rfl ?_
  refine F_Vi h (fun a m e => tX0_termOf e) dX8_terms_5 hm_X0_termOf hv_X0_termOf ln_X8_170 rfl rfl (Nat.le_of_ble_eq_true rfl) (Nat.le_of_ble_eq_true rfl) (kc' := 0) (ks' := 0) rfl rfl (fun v2 u3 h => ?_)
  refine E_istore_n (l' := [(3, .int v2), (0, .ref a0), (1, .int x1), (2, .int x2)]) dX8_terms_8 rfl (Nat.le_of_ble_eq_true rfl) rfl ?_
  refine E_iload_n dX8_terms_9 rfl rfl ?_
  refine E_iconst (v := (-1)) dX8_terms_10 (by decide) ?_
  refine E_ic_eq (tgt := 22) h dX8_terms_11 (by decide) (fun h => ?_) (fun h => ?_)
  · refine Eg.pick [1] rfl ?_
    exact pX8_terms_22 _ _ h
  · refine E_iload_n dX8_terms_14 rfl rfl ?_
    refine E_iload_n dX8_terms_15 rfl rfl ?_
    refine F_Si h (fun a m e => tX0_termFits e) dX8_terms_16 hm_X0_termFits hs_X0_termFits ln_X8_173 rfl rfl (Nat.le_of_ble_eq_true rfl) (Nat.le_of_ble_eq_true rfl) (kc' := 0) (ks' := 0) rfl rfl (fun v6 u7 h => ?_)
    refine E_if_ne (tgt := 28) h dX8_terms_19 (by decide) (fun h => ?_) (fun h => ?_)
    · refine E_aload_n dX8_terms_28 rfl rfl ?_
      refine E_getA h dX8_terms_29 cf8 lk_X8_10 (by decide) (fun _ _ _ => rfl) (fun e8 h => ?_)
      refine E_iload_n dX8_terms_32 rfl rfl ?_
      refine E_iload_n dX8_terms_33 rfl rfl ?_
      refine F_Vv h (fun m e => tX0_setTerm e) dX8_terms_34 hm_X0_setTerm hv_X0_setTerm ln_X8_177 rfl rfl (Nat.le_of_ble_eq_true rfl) (Nat.le_of_ble_eq_true rfl) (kc' := 0) (ks' := 0) rfl rfl (fun u9 h => ?_)
      refine E_aload_n dX8_terms_37 rfl rfl ?_
      refine E_getA h dX8_terms_38 cf8 lk_X8_48 (by decide) (fun _ _ _ => rfl) (fun e10 h => ?_)
      refine F_Vv h (fun m e => tX3_clear e) dX8_terms_41 hm_X3_clear hv_X3_clear ln_X8_111 rfl rfl (Nat.le_of_ble_eq_true rfl) (Nat.le_of_ble_eq_true rfl) (kc' := 0) (ks' := 0) rfl rfl (fun u11 h => ?_)
      refine E_aload_n dX8_terms_44 rfl rfl ?_
      refine E_iload_n dX8_terms_45 rfl rfl ?_
      refine F_Vi h (fun a m e => tX8_accept e) dX8_terms_46 hm_X8_accept hv_X8_accept ln_X8_114 rfl rfl (Nat.le_of_ble_eq_true rfl) (Nat.le_of_ble_eq_true rfl) (kc' := 0) (ks' := 0) rfl rfl (fun v12 u13 h => ?_)
      exact E_iret h dX8_terms_49 rfl
    · refine Eg.pick [1] rfl ?_
      exact pX8_terms_22 _ _ h
def bX8_addBytes_3 (k3 : Mm → Nat → Int32 → Int32 → Option (Unit × Mm)) (u : Mm) (a0 : Nat) (x1 : Int32) (x2 : Int32) : Option (Unit × Mm) := (if (x2 : Int32) < 0 then some ((), u) else oK u a0 8 19 (oI (mI u a0 12) (fun v1 => (if (400 : Int32) ≤ v1 then some ((), u) else oK u a0 8 19 (oNn (mR u a0 11) (fun e2 => oK u a0 8 19 (oI (mI u a0 12) (fun v3 => oA u e2 10 v3 (oU (wI u e2 (upd (mI u e2) (Int32.toNatClampNeg v3) (((Int32.toUInt32 x1 >>> (Int32.toUInt32 x2 &&& Int32.toUInt32 31)).toInt32) &&& 255))) (fun u4 => oK u4 a0 8 19 (oI (mI u4 a0 12) (fun v5 => oK u4 a0 8 19 (oU (wI u4 a0 (upd (mI u4 a0) 12 (v5 + 1))) (fun u6 => k3 u6 a0 x1 (x2 + (-8))))))))))))))))
set_option maxRecDepth 100000 in
set_option maxHeartbeats 4000000 in
theorem pX8_addBytes_3 {r : Unit} {u' : Mm} {k3 : Mm → Nat → Int32 → Int32 → Option (Unit × Mm)} (hk3 : ∀ (u : Mm) (a0 : Nat) (x1 : Int32) (x2 : Int32), k3 u a0 x1 x2 = some (r, u') → Eg MX8_addBytes 0 0 0 (none, u') 3 [(0, .ref a0), (1, .int x1), (2, .int x2)] [] u) (u : Mm) (a0 : Nat) (x1 : Int32) (x2 : Int32) (h : bX8_addBytes_3 k3 u a0 x1 x2 = some (r, u')) : Eg MX8_addBytes 0 0 0 (none, u') 3 [(0, .ref a0), (1, .int x1), (2, .int x2)] [] u := by
  unfold bX8_addBytes_3 at h
  refine E_iload_n dX8_addBytes_3 rfl rfl ?_
  refine E_if_lt (tgt := 49) h dX8_addBytes_4 (by decide) (fun h => ?_) (fun h => ?_)
  · exact E_vret h dX8_addBytes_49 rfl
  · refine E_aload_n dX8_addBytes_7 rfl rfl ?_
    refine E_getI h dX8_addBytes_8 cf8 lk_X8_181 (by decide) (fun _ _ _ => rfl) (fun h => ?_)
    refine E_oI h (fun v1 h => ?_)
    refine E_sipush (v := 400) dX8_addBytes_11 (by decide) ?_
    refine E_ic_ge (tgt := 49) h dX8_addBytes_14 (by decide) (fun h => ?_) (fun h => ?_)
    · exact E_vret h dX8_addBytes_49 rfl
    · refine E_aload_n dX8_addBytes_17 rfl rfl ?_
      refine E_getA h dX8_addBytes_18 cf8 lk_X8_68 (by decide) (fun _ _ _ => rfl) (fun e2 h => ?_)
      refine E_aload_n dX8_addBytes_21 rfl rfl ?_
      refine E_getI h dX8_addBytes_22 cf8 lk_X8_181 (by decide) (fun _ _ _ => rfl) (fun h => ?_)
      refine E_oI h (fun v3 h => ?_)
      refine E_iload_n dX8_addBytes_25 rfl rfl ?_
      refine E_iload_n dX8_addBytes_26 rfl rfl ?_
      refine E_iushr dX8_addBytes_27 ?_
      refine E_sipush (v := 255) dX8_addBytes_28 (by decide) ?_
      refine E_iand dX8_addBytes_31 ?_
      refine E_iast h dX8_addBytes_32 (fun h => ?_)
      refine E_oU h (fun u4 h => ?_)
      refine E_aload_n dX8_addBytes_33 rfl rfl ?_
      refine E_dup dX8_addBytes_34 rfl ?_
      refine E_getI h dX8_addBytes_35 cf8 lk_X8_181 (by decide) (fun _ _ _ => rfl) (fun h => ?_)
      refine E_oI h (fun v5 h => ?_)
      refine E_iconst (v := 1) dX8_addBytes_38 (by decide) ?_
      refine E_iadd dX8_addBytes_39 ?_
      refine E_putI h dX8_addBytes_40 cf8 lk_X8_181 (by decide) (Or.inl rfl) rfl (fun h => ?_)
      refine E_oU h (fun u6 h => ?_)
      refine E_iinc (j := 2) (v := x2 + (-8)) (l' := [(2, .int (x2 + (-8))), (0, .ref a0), (1, .int x1)]) dX8_addBytes_43 rfl (addI (by decide)) (Nat.le_of_ble_eq_true rfl) rfl ?_
      refine E_goto (tgt := 3) dX8_addBytes_46 (by decide) ?_
      refine Eg.pick [1, 2, 0] rfl ?_
      exact hk3 _ _ _ _ h
def rX8_addBytes_3 : Nat → Mm → Nat → Int32 → Int32 → Option (Unit × Mm)
  | 0, _, _, _, _ => none
  | n + 1, u, a0, x1, x2 => bX8_addBytes_3 (rX8_addBytes_3 n) u a0 x1 x2
theorem prX8_addBytes_3 {r : Unit} {u' : Mm} : ∀ (n : Nat) (u : Mm) (a0 : Nat) (x1 : Int32) (x2 : Int32), rX8_addBytes_3 n u a0 x1 x2 = some (r, u') → Eg MX8_addBytes 0 0 0 (none, u') 3 [(0, .ref a0), (1, .int x1), (2, .int x2)] [] u
  | 0, _, _, _, _, h => by cases h
  | n + 1, u, a0, x1, x2, h => pX8_addBytes_3 (prX8_addBytes_3 n) u a0 x1 x2 h
def fX8_addBytes (u : Mm) (a0 : Nat) (x1 : Int32) : Option (Unit × Mm) := rX8_addBytes_3 hwF u a0 x1 24
set_option maxRecDepth 100000 in
set_option maxHeartbeats 4000000 in
theorem tX8_addBytes {u : Mm} {a0 : Nat} {x1 : Int32} {r : Unit} {u' : Mm} (h : fX8_addBytes u a0 x1 = some (r, u')) : Ev 0 MX8_addBytes 0 0 [.ref a0, .int x1] u (none, u') := by
  refine Ev.of (by decide +kernel) (Nat.le_of_ble_eq_true rfl) (show Eg MX8_addBytes 0 0 0 (none, u') 0 [(0, .ref a0), (1, .int x1)] [] u from ?_)
  unfold fX8_addBytes at h
  refine E_bipush (v := 24) dX8_addBytes_0 (by decide) ?_
  refine E_istore_n (l' := [(2, .int 24), (0, .ref a0), (1, .int x1)]) dX8_addBytes_2 rfl (Nat.le_of_ble_eq_true rfl) rfl ?_
  refine Eg.pick [1, 2, 0] rfl ?_
  exact prX8_addBytes_3 _ _ _ _ _ h
def fX8_feed (u : Mm) (a0 : Nat) (x1 : Int32) (x2 : Int32) (x3 : Int32) (x4 : Int32) (x5 : Int32) : Option (Int32 × Mm) := oK u a0 8 19 (oI (mI u a0 12) (fun v1 => (if (v1 + 20 : Int32) ≤ 400 then oR u a0 8 (oB (fX8_addBytes u a0 x1) (fun _ u2 => oR u2 a0 8 (oB (fX8_addBytes u2 a0 x2) (fun _ u3 => oR u3 a0 8 (oB (fX8_addBytes u3 a0 x3) (fun _ u4 => oR u4 a0 8 (oB (fX8_addBytes u4 a0 x4) (fun _ u5 => oR u5 a0 8 (oB (fX8_addBytes u5 a0 x5) (fun _ u6 => oK u6 a0 8 19 (oI (mI u6 a0 12) (fun v7 => some (v7, u6))))))))))))) else some ((-1), u))))
set_option maxRecDepth 100000 in
set_option maxHeartbeats 4000000 in
theorem tX8_feed {u : Mm} {a0 : Nat} {x1 : Int32} {x2 : Int32} {x3 : Int32} {x4 : Int32} {x5 : Int32} {r : Int32} {u' : Mm} (h : fX8_feed u a0 x1 x2 x3 x4 x5 = some (r, u')) : Ev 1 MX8_feed 0 0 [.ref a0, .int x1, .int x2, .int x3, .int x4, .int x5] u (some (.int r), u') := by
  refine Ev.of (by decide +kernel) (Nat.le_of_ble_eq_true rfl) (show Eg MX8_feed 1 0 0 (some (.int r), u') 0 [(0, .ref a0), (1, .int x1), (2, .int x2), (3, .int x3), (4, .int x4), (5, .int x5)] [] u from ?_)
  unfold fX8_feed at h
  refine E_aload_n dX8_feed_0 rfl rfl ?_
  refine E_getI h dX8_feed_1 cf8 lk_X8_181 (by decide) (fun _ _ _ => rfl) (fun h => ?_)
  refine E_oI h (fun v1 h => ?_)
  refine E_bipush (v := 20) dX8_feed_4 (by decide) ?_
  refine E_iadd dX8_feed_6 ?_
  refine E_sipush (v := 400) dX8_feed_7 (by decide) ?_
  refine E_ic_le (tgt := 15) h dX8_feed_10 (by decide) (fun h => ?_) (fun h => ?_)
  · refine E_aload_n dX8_feed_15 rfl rfl ?_
    refine E_iload_n dX8_feed_16 rfl rfl ?_
    refine F_Vv h (fun m e => tX8_addBytes e) dX8_feed_17 hm_X8_addBytes hv_X8_addBytes ln_X8_184 rfl rfl (Nat.le_of_ble_eq_true rfl) (Nat.le_of_ble_eq_true rfl) (kc' := 0) (ks' := 0) rfl rfl (fun u2 h => ?_)
    refine E_aload_n dX8_feed_20 rfl rfl ?_
    refine E_iload_n dX8_feed_21 rfl rfl ?_
    refine F_Vv h (fun m e => tX8_addBytes e) dX8_feed_22 hm_X8_addBytes hv_X8_addBytes ln_X8_184 rfl rfl (Nat.le_of_ble_eq_true rfl) (Nat.le_of_ble_eq_true rfl) (kc' := 0) (ks' := 0) rfl rfl (fun u3 h => ?_)
    refine E_aload_n dX8_feed_25 rfl rfl ?_
    refine E_iload_n dX8_feed_26 rfl rfl ?_
    refine F_Vv h (fun m e => tX8_addBytes e) dX8_feed_27 hm_X8_addBytes hv_X8_addBytes ln_X8_184 rfl rfl (Nat.le_of_ble_eq_true rfl) (Nat.le_of_ble_eq_true rfl) (kc' := 0) (ks' := 0) rfl rfl (fun u4 h => ?_)
    refine E_aload_n dX8_feed_30 rfl rfl ?_
    refine E_iload dX8_feed_31 rfl ?_
    refine F_Vv h (fun m e => tX8_addBytes e) dX8_feed_33 hm_X8_addBytes hv_X8_addBytes ln_X8_184 rfl rfl (Nat.le_of_ble_eq_true rfl) (Nat.le_of_ble_eq_true rfl) (kc' := 0) (ks' := 0) rfl rfl (fun u5 h => ?_)
    refine E_aload_n dX8_feed_36 rfl rfl ?_
    refine E_iload dX8_feed_37 rfl ?_
    refine F_Vv h (fun m e => tX8_addBytes e) dX8_feed_39 hm_X8_addBytes hv_X8_addBytes ln_X8_184 rfl rfl (Nat.le_of_ble_eq_true rfl) (Nat.le_of_ble_eq_true rfl) (kc' := 0) (ks' := 0) rfl rfl (fun u6 h => ?_)
    refine E_aload_n dX8_feed_42 rfl rfl ?_
    refine E_getI h dX8_feed_43 cf8 lk_X8_181 (by decide) (fun _ _ _ => rfl) (fun h => ?_)
    refine E_oI h (fun v7 h => ?_)
    exact E_iret h dX8_feed_46 rfl
  · refine E_iconst (v := (-1)) dX8_feed_13 (by decide) ?_
    exact E_iret h dX8_feed_14 rfl
def fX8_end (u : Mm) (a0 : Nat) (x1 : Int32) : Option (Int32 × Mm) := oK u a0 8 19 (oI (mI u a0 12) (fun v1 => oB (fX8_within u x1 0 v1) (fun v2 u3 => (if (v2 : Int32) = 0 then some ((-1), u3) else oK u3 a0 8 19 (oU (wI u3 a0 (upd (mI u3 a0) 12 x1)) (fun u4 => some (x1, u4)))))))
set_option maxRecDepth 100000 in
set_option maxHeartbeats 4000000 in
theorem tX8_end {u : Mm} {a0 : Nat} {x1 : Int32} {r : Int32} {u' : Mm} (h : fX8_end u a0 x1 = some (r, u')) : Ev 1 MX8_end 0 0 [.ref a0, .int x1] u (some (.int r), u') := by
  refine Ev.of (by decide +kernel) (Nat.le_of_ble_eq_true rfl) (show Eg MX8_end 1 0 0 (some (.int r), u') 0 [(0, .ref a0), (1, .int x1)] [] u from ?_)
  unfold fX8_end at h
  refine E_iload_n dX8_end_0 rfl rfl ?_
  refine E_iconst (v := 0) dX8_end_1 (by decide) ?_
  refine E_aload_n dX8_end_2 rfl rfl ?_
  refine E_getI h dX8_end_3 cf8 lk_X8_181 (by decide) (fun _ _ _ => rfl) (fun h => ?_)
  refine E_oI h (fun v1 h => ?_)
  refine F_Si h (fun a m e => tX8_within e) dX8_end_6 hm_X8_within hs_X8_within ln_X8_92 rfl rfl (Nat.le_of_ble_eq_true rfl) (Nat.le_of_ble_eq_true rfl) (kc' := 0) (ks' := 0) rfl rfl (fun v2 u3 h => ?_)
  refine E_if_ne (tgt := 14) h dX8_end_9 (by decide) (fun h => ?_) (fun h => ?_)
  · refine E_aload_n dX8_end_14 rfl rfl ?_
    refine E_iload_n dX8_end_15 rfl rfl ?_
    refine E_putI h dX8_end_16 cf8 lk_X8_181 (by decide) (Or.inl rfl) rfl (fun h => ?_)
    refine E_oU h (fun u4 h => ?_)
    refine E_iload_n dX8_end_19 rfl rfl ?_
    exact E_iret h dX8_end_20 rfl
  · refine E_iconst (v := (-1)) dX8_end_12 (by decide) ?_
    exact E_iret h dX8_end_13 rfl
def fX8_tellMen (u : Mm) (a0 : Nat) (x1 : Int32) : Option (Int32 × Mm) := oK u a0 8 19 (oI (mI u a0 12) (fun v1 => (if (v1 : Int32) < (x1 + 3) then oZ 0 (some (0, u)) else oK u a0 8 19 (oNn (mR u a0 11) (fun e2 => oA u e2 10 x1 (oI (mI u e2 (Int32.toNatClampNeg x1)) (fun v3 => oB (fX8_isSide u v3) (fun v4 u5 => (if (v4 : Int32) = 0 then oZ 0 (some (0, u5)) else oK u5 a0 8 19 (oNn (mR u5 a0 11) (fun e6 => oA u5 e6 10 (x1 + 1) (oI (mI u5 e6 (Int32.toNatClampNeg (x1 + 1))) (fun v7 => oB (fX8_isColumn u5 v7) (fun v8 u9 => (if (v8 : Int32) = 0 then oZ 0 (some (0, u9)) else oK u9 a0 8 19 (oNn (mR u9 a0 11) (fun e10 => oA u9 e10 10 (x1 + 2) (oI (mI u9 e10 (Int32.toNatClampNeg (x1 + 2))) (fun v11 => oB (fX8_within u9 v11 0 99) (fun v12 u13 => (if (v12 : Int32) = 0 then oZ 0 (some (0, u13)) else oK u13 a0 8 19 (oNn (mR u13 a0 0) (fun e14 => oK u13 e14 0 16 (oNn (mR u13 e14 0) (fun e15 => oK u13 a0 8 19 (oNn (mR u13 a0 11) (fun e16 => oA u13 e16 10 x1 (oI (mI u13 e16 (Int32.toNatClampNeg x1)) (fun v17 => oK u13 a0 8 19 (oNn (mR u13 a0 11) (fun e18 => oA u13 e18 10 (x1 + 1) (oI (mI u13 e18 (Int32.toNatClampNeg (x1 + 1))) (fun v19 => oK u13 a0 8 19 (oNn (mR u13 a0 11) (fun e20 => oA u13 e20 10 (x1 + 2) (oI (mI u13 e20 (Int32.toNatClampNeg (x1 + 2))) (fun v21 => oR u13 e15 1 (oB (fX1_setMen u13 e15 v17 v19 v21) (fun _ u22 => oZ 1 (some (1, u22)))))))))))))))))))))))))))))))))))))))))
set_option maxRecDepth 100000 in
set_option maxHeartbeats 4000000 in
theorem tX8_tellMen {u : Mm} {a0 : Nat} {x1 : Int32} {r : Int32} {u' : Mm} (h : fX8_tellMen u a0 x1 = some (r, u')) : Ev 2 MX8_tellMen 0 0 [.ref a0, .int x1] u (some (.int r), u') := by
  refine Ev.of (by decide +kernel) (Nat.le_of_ble_eq_true rfl) (show Eg MX8_tellMen 2 0 0 (some (.int r), u') 0 [(0, .ref a0), (1, .int x1)] [] u from ?_)
  unfold fX8_tellMen at h
  refine E_iload_n dX8_tellMen_0 rfl rfl ?_
  refine E_iconst (v := 3) dX8_tellMen_1 (by decide) ?_
  refine E_iadd dX8_tellMen_2 ?_
  refine E_aload_n dX8_tellMen_3 rfl rfl ?_
  refine E_getI h dX8_tellMen_4 cf8 lk_X8_181 (by decide) (fun _ _ _ => rfl) (fun h => ?_)
  refine E_oI h (fun v1 h => ?_)
  refine E_ic_gt (tgt := 53) h dX8_tellMen_7 (by decide) (fun h => ?_) (fun h => ?_)
  · refine E_iconst (v := 0) dX8_tellMen_53 (by decide) ?_
    exact E_zret h dX8_tellMen_54 rfl
  · refine E_aload_n dX8_tellMen_10 rfl rfl ?_
    refine E_getA h dX8_tellMen_11 cf8 lk_X8_68 (by decide) (fun _ _ _ => rfl) (fun e2 h => ?_)
    refine E_iload_n dX8_tellMen_14 rfl rfl ?_
    refine E_iald h dX8_tellMen_15 (fun h => ?_)
    refine E_oI h (fun v3 h => ?_)
    refine F_Si h (fun a m e => tX8_isSide e) dX8_tellMen_16 hm_X8_isSide hs_X8_isSide ln_X8_85 rfl rfl (Nat.le_of_ble_eq_true rfl) (Nat.le_of_ble_eq_true rfl) (kc' := 0) (ks' := 0) rfl rfl (fun v4 u5 h => ?_)
    refine E_if_eq (tgt := 53) h dX8_tellMen_19 (by decide) (fun h => ?_) (fun h => ?_)
    · refine E_iconst (v := 0) dX8_tellMen_53 (by decide) ?_
      exact E_zret h dX8_tellMen_54 rfl
    · refine E_aload_n dX8_tellMen_22 rfl rfl ?_
      refine E_getA h dX8_tellMen_23 cf8 lk_X8_68 (by decide) (fun _ _ _ => rfl) (fun e6 h => ?_)
      refine E_iload_n dX8_tellMen_26 rfl rfl ?_
      refine E_iconst (v := 1) dX8_tellMen_27 (by decide) ?_
      refine E_iadd dX8_tellMen_28 ?_
      refine E_iald h dX8_tellMen_29 (fun h => ?_)
      refine E_oI h (fun v7 h => ?_)
      refine F_Si h (fun a m e => tX8_isColumn e) dX8_tellMen_30 hm_X8_isColumn hs_X8_isColumn ln_X8_89 rfl rfl (Nat.le_of_ble_eq_true rfl) (Nat.le_of_ble_eq_true rfl) (kc' := 0) (ks' := 0) rfl rfl (fun v8 u9 h => ?_)
      refine E_if_eq (tgt := 53) h dX8_tellMen_33 (by decide) (fun h => ?_) (fun h => ?_)
      · refine E_iconst (v := 0) dX8_tellMen_53 (by decide) ?_
        exact E_zret h dX8_tellMen_54 rfl
      · refine E_aload_n dX8_tellMen_36 rfl rfl ?_
        refine E_getA h dX8_tellMen_37 cf8 lk_X8_68 (by decide) (fun _ _ _ => rfl) (fun e10 h => ?_)
        refine E_iload_n dX8_tellMen_40 rfl rfl ?_
        refine E_iconst (v := 2) dX8_tellMen_41 (by decide) ?_
        refine E_iadd dX8_tellMen_42 ?_
        refine E_iald h dX8_tellMen_43 (fun h => ?_)
        refine E_oI h (fun v11 h => ?_)
        refine E_iconst (v := 0) dX8_tellMen_44 (by decide) ?_
        refine E_bipush (v := 99) dX8_tellMen_45 (by decide) ?_
        refine F_Si h (fun a m e => tX8_within e) dX8_tellMen_47 hm_X8_within hs_X8_within ln_X8_92 rfl rfl (Nat.le_of_ble_eq_true rfl) (Nat.le_of_ble_eq_true rfl) (kc' := 0) (ks' := 0) rfl rfl (fun v12 u13 h => ?_)
        refine E_if_ne (tgt := 55) h dX8_tellMen_50 (by decide) (fun h => ?_) (fun h => ?_)
        · refine E_aload_n dX8_tellMen_55 rfl rfl ?_
          refine E_getA h dX8_tellMen_56 cf8 lk_X8_10 (by decide) (fun _ _ _ => rfl) (fun e14 h => ?_)
          refine E_getA h dX8_tellMen_59 cf0 lk_X8_100 (by decide) (fun _ _ _ => rfl) (fun e15 h => ?_)
          refine E_aload_n dX8_tellMen_62 rfl rfl ?_
          refine E_getA h dX8_tellMen_63 cf8 lk_X8_68 (by decide) (fun _ _ _ => rfl) (fun e16 h => ?_)
          refine E_iload_n dX8_tellMen_66 rfl rfl ?_
          refine E_iald h dX8_tellMen_67 (fun h => ?_)
          refine E_oI h (fun v17 h => ?_)
          refine E_aload_n dX8_tellMen_68 rfl rfl ?_
          refine E_getA h dX8_tellMen_69 cf8 lk_X8_68 (by decide) (fun _ _ _ => rfl) (fun e18 h => ?_)
          refine E_iload_n dX8_tellMen_72 rfl rfl ?_
          refine E_iconst (v := 1) dX8_tellMen_73 (by decide) ?_
          refine E_iadd dX8_tellMen_74 ?_
          refine E_iald h dX8_tellMen_75 (fun h => ?_)
          refine E_oI h (fun v19 h => ?_)
          refine E_aload_n dX8_tellMen_76 rfl rfl ?_
          refine E_getA h dX8_tellMen_77 cf8 lk_X8_68 (by decide) (fun _ _ _ => rfl) (fun e20 h => ?_)
          refine E_iload_n dX8_tellMen_80 rfl rfl ?_
          refine E_iconst (v := 2) dX8_tellMen_81 (by decide) ?_
          refine E_iadd dX8_tellMen_82 ?_
          refine E_iald h dX8_tellMen_83 (fun h => ?_)
          refine E_oI h (fun v21 h => ?_)
          refine F_Vv h (fun m e => tX1_setMen e) dX8_tellMen_84 hm_X1_setMen hv_X1_setMen ln_X8_107 rfl rfl (Nat.le_of_ble_eq_true rfl) (Nat.le_of_ble_eq_true rfl) (kc' := 0) (ks' := 0) rfl rfl (fun u22 h => ?_)
          refine E_iconst (v := 1) dX8_tellMen_87 (by decide) ?_
          exact E_zret h dX8_tellMen_88 rfl
        · refine E_iconst (v := 0) dX8_tellMen_53 (by decide) ?_
          exact E_zret h dX8_tellMen_54 rfl
def bX8_row_55 (k23 : Mm → Nat → Int32 → Int32 → Option (Int32 × Mm)) (u : Mm) (a0 : Nat) (x1 : Int32) (x2 : Int32) : Option (Int32 × Mm) := k23 u a0 x1 (x2 + 3)
set_option maxRecDepth 100000 in
set_option maxHeartbeats 4000000 in
theorem pX8_row_55 {r : Int32} {u' : Mm} {k23 : Mm → Nat → Int32 → Int32 → Option (Int32 × Mm)} (hk23 : ∀ (u : Mm) (a0 : Nat) (x1 : Int32) (x2 : Int32), k23 u a0 x1 x2 = some (r, u') → Eg MX8_row 3 0 0 (some (.int r), u') 23 [(0, .ref a0), (1, .int x1), (2, .int x2)] [] u) (u : Mm) (a0 : Nat) (x1 : Int32) (x2 : Int32) (h : bX8_row_55 k23 u a0 x1 x2 = some (r, u')) : Eg MX8_row 3 0 0 (some (.int r), u') 55 [(0, .ref a0), (1, .int x1), (2, .int x2)] [] u := by
  unfold bX8_row_55 at h
  refine E_iinc (j := 2) (v := x2 + 3) (l' := [(2, .int (x2 + 3)), (0, .ref a0), (1, .int x1)]) dX8_row_55 rfl (addI (by decide)) (Nat.le_of_ble_eq_true rfl) rfl ?_
  refine E_goto (tgt := 23) dX8_row_58 (by decide) ?_
  refine Eg.pick [1, 2, 0] rfl ?_
  exact hk23 _ _ _ _ h
def bX8_row_23 (k23 : Mm → Nat → Int32 → Int32 → Option (Int32 × Mm)) (u : Mm) (a0 : Nat) (x1 : Int32) (x2 : Int32) : Option (Int32 × Mm) := oK u a0 8 19 (oI (mI u a0 12) (fun v3 => (if (v3 : Int32) ≤ x2 then oK u a0 8 19 (oU (wI u a0 (upd (mI u a0) 12 0)) (fun u4 => oK u4 a0 8 19 (oNn (mR u4 a0 5) (fun e5 => oR u4 e5 3 (oB (fX3_clear u4 e5) (fun _ u6 => oR u6 a0 8 (oB (fX8_accept u6 a0 x1) (fun v7 u8 => some (v7, u8))))))))) else oR u a0 8 (oB (fX8_tellMen u a0 x2) (fun v9 u10 => (if (v9 : Int32) = 0 then oK u10 a0 8 19 (oI (mI u10 a0 14) (fun v11 => oK u10 a0 8 19 (oU (wI u10 a0 (upd (mI u10 a0) 14 (v11 + 1))) (fun u12 => bX8_row_55 k23 u12 a0 x1 x2)))) else bX8_row_55 k23 u10 a0 (x1 + 1) x2))))))
set_option maxRecDepth 100000 in
set_option maxHeartbeats 4000000 in
theorem pX8_row_23 {r : Int32} {u' : Mm} {k23 : Mm → Nat → Int32 → Int32 → Option (Int32 × Mm)} (hk23 : ∀ (u : Mm) (a0 : Nat) (x1 : Int32) (x2 : Int32), k23 u a0 x1 x2 = some (r, u') → Eg MX8_row 3 0 0 (some (.int r), u') 23 [(0, .ref a0), (1, .int x1), (2, .int x2)] [] u) (u : Mm) (a0 : Nat) (x1 : Int32) (x2 : Int32) (h : bX8_row_23 k23 u a0 x1 x2 = some (r, u')) : Eg MX8_row 3 0 0 (some (.int r), u') 23 [(0, .ref a0), (1, .int x1), (2, .int x2)] [] u := by
  unfold bX8_row_23 at h
  refine E_iload_n dX8_row_23 rfl rfl ?_
  refine E_aload_n dX8_row_24 rfl rfl ?_
  refine E_getI h dX8_row_25 cf8 lk_X8_181 (by decide) (fun _ _ _ => rfl) (fun h => ?_)
  refine E_oI h (fun v3 h => ?_)
  refine E_ic_ge (tgt := 61) h dX8_row_28 (by decide) (fun h => ?_) (fun h => ?_)
  · refine E_aload_n dX8_row_61 rfl rfl ?_
    refine E_iconst (v := 0) dX8_row_62 (by decide) ?_
    refine E_putI h dX8_row_63 cf8 lk_X8_181 (by decide) (Or.inl rfl) rfl (fun h => ?_)
    refine E_oU h (fun u4 h => ?_)
    refine E_aload_n dX8_row_66 rfl rfl ?_
    refine E_getA h dX8_row_67 cf8 lk_X8_48 (by decide) (fun _ _ _ => rfl) (fun e5 h => ?_)
    refine F_Vv h (fun m e => tX3_clear e) dX8_row_70 hm_X3_clear hv_X3_clear ln_X8_111 rfl rfl (Nat.le_of_ble_eq_true rfl) (Nat.le_of_ble_eq_true rfl) (kc' := 0) (ks' := 0) rfl rfl (fun u6 h => ?_)
    refine E_aload_n dX8_row_73 rfl rfl ?_
    refine E_iload_n dX8_row_74 rfl rfl ?_
    refine F_Vi h (fun a m e => tX8_accept e) dX8_row_75 hm_X8_accept hv_X8_accept ln_X8_114 rfl rfl (Nat.le_of_ble_eq_true rfl) (Nat.le_of_ble_eq_true rfl) (kc' := 0) (ks' := 0) rfl rfl (fun v7 u8 h => ?_)
    exact E_iret h dX8_row_78 rfl
  · refine E_aload_n dX8_row_31 rfl rfl ?_
    refine E_iload_n dX8_row_32 rfl rfl ?_
    refine F_Vi h (fun a m e => tX8_tellMen e) dX8_row_33 hm_X8_tellMen hv_X8_tellMen ln_X8_191 rfl rfl (Nat.le_of_ble_eq_true rfl) (Nat.le_of_ble_eq_true rfl) (kc' := 0) (ks' := 0) rfl rfl (fun v9 u10 h => ?_)
    refine E_if_eq (tgt := 45) h dX8_row_36 (by decide) (fun h => ?_) (fun h => ?_)
    · refine E_aload_n dX8_row_45 rfl rfl ?_
      refine E_dup dX8_row_46 rfl ?_
      refine E_getI h dX8_row_47 cf8 lk_X8_188 (by decide) (fun _ _ _ => rfl) (fun h => ?_)
      refine E_oI h (fun v11 h => ?_)
      refine E_iconst (v := 1) dX8_row_50 (by decide) ?_
      refine E_iadd dX8_row_51 ?_
      refine E_putI h dX8_row_52 cf8 lk_X8_188 (by decide) (Or.inl rfl) rfl (fun h => ?_)
      refine E_oU h (fun u12 h => ?_)
      refine Eg.pick [0, 1, 2] rfl ?_
      exact pX8_row_55 hk23 _ _ _ _ h
    · refine E_iinc (j := 1) (v := x1 + 1) (l' := [(1, .int (x1 + 1)), (0, .ref a0), (2, .int x2)]) dX8_row_39 rfl (addI (by decide)) (Nat.le_of_ble_eq_true rfl) rfl ?_
      refine E_goto (tgt := 55) dX8_row_42 (by decide) ?_
      refine Eg.pick [1, 0, 2] rfl ?_
      exact pX8_row_55 hk23 _ _ _ _ h
def rX8_row_23 : Nat → Mm → Nat → Int32 → Int32 → Option (Int32 × Mm)
  | 0, _, _, _, _ => none
  | n + 1, u, a0, x1, x2 => bX8_row_23 (rX8_row_23 n) u a0 x1 x2
theorem prX8_row_23 {r : Int32} {u' : Mm} : ∀ (n : Nat) (u : Mm) (a0 : Nat) (x1 : Int32) (x2 : Int32), rX8_row_23 n u a0 x1 x2 = some (r, u') → Eg MX8_row 3 0 0 (some (.int r), u') 23 [(0, .ref a0), (1, .int x1), (2, .int x2)] [] u
  | 0, _, _, _, _, h => by cases h
  | n + 1, u, a0, x1, x2, h => pX8_row_23 (prX8_row_23 n) u a0 x1 x2 h
def fX8_row (u : Mm) (a0 : Nat) : Option (Int32 × Mm) := oK u a0 8 19 (oI (mI u a0 12) (fun v1 => (if (v1 : Int32) = 0 then oR u a0 8 (oB (fX8_refuse u a0 ((-6))) (fun v13 u14 => some (v13, u14))) else oK u a0 8 19 (oU (wI u a0 (upd (mI u a0) 14 0)) (fun u2 => rX8_row_23 hwF u2 a0 0 0)))))
set_option maxRecDepth 100000 in
set_option maxHeartbeats 4000000 in
theorem tX8_row {u : Mm} {a0 : Nat} {r : Int32} {u' : Mm} (h : fX8_row u a0 = some (r, u')) : Ev 3 MX8_row 0 0 [.ref a0] u (some (.int r), u') := by
  refine Ev.of (by decide +kernel) (Nat.le_of_ble_eq_true rfl) (show Eg MX8_row 3 0 0 (some (.int r), u') 0 [(0, .ref a0)] [] u from ?_)
  unfold fX8_row at h
  refine E_aload_n dX8_row_0 rfl rfl ?_
  refine E_getI h dX8_row_1 cf8 lk_X8_181 (by decide) (fun _ _ _ => rfl) (fun h => ?_)
  refine E_oI h (fun v1 h => ?_)
  refine E_if_ne (tgt := 14) h dX8_row_4 (by decide) (fun h => ?_) (fun h => ?_)
  · refine E_iconst (v := 0) dX8_row_14 (by decide) ?_
    refine E_istore_n (l' := [(1, .int 0), (0, .ref a0)]) dX8_row_15 rfl (Nat.le_of_ble_eq_true rfl) rfl ?_
    refine E_aload_n dX8_row_16 rfl rfl ?_
    refine E_iconst (v := 0) dX8_row_17 (by decide) ?_
    refine E_putI h dX8_row_18 cf8 lk_X8_188 (by decide) (Or.inl rfl) rfl (fun h => ?_)
    refine E_oU h (fun u2 h => ?_)
    refine E_iconst (v := 0) dX8_row_21 (by decide) ?_
    refine E_istore_n (l' := [(2, .int 0), (1, .int 0), (0, .ref a0)]) dX8_row_22 rfl (Nat.le_of_ble_eq_true rfl) rfl ?_
    refine Eg.pick [2, 1, 0] rfl ?_
    exact prX8_row_23 _ _ _ _ _ h
  · refine E_aload_n dX8_row_7 rfl rfl ?_
    refine E_bipush (v := (-6)) dX8_row_8 (by decide) ?_
    refine F_Vi h (fun a m e => tX8_refuse e) dX8_row_10 hm_X8_refuse hv_X8_refuse ln_X8_96 rfl rfl (Nat.le_of_ble_eq_true rfl) (Nat.le_of_ble_eq_true rfl) (kc' := 0) (ks' := 0) rfl rfl (fun v13 u14 h => ?_)
    exact E_iret h dX8_row_13 rfl
def fX8_strokes (u : Mm) (a0 : Nat) : Option (Int32 × Mm) := oK u a0 8 19 (oI (mI u a0 14) (fun v1 => some (v1, u)))
set_option maxRecDepth 100000 in
set_option maxHeartbeats 4000000 in
theorem tX8_strokes {u : Mm} {a0 : Nat} {r : Int32} {u' : Mm} (h : fX8_strokes u a0 = some (r, u')) : Ev 0 MX8_strokes 0 0 [.ref a0] u (some (.int r), u') := by
  refine Ev.of (by decide +kernel) (Nat.le_of_ble_eq_true rfl) (show Eg MX8_strokes 0 0 0 (some (.int r), u') 0 [(0, .ref a0)] [] u from ?_)
  unfold fX8_strokes at h
  refine E_aload_n dX8_strokes_0 rfl rfl ?_
  refine E_getI h dX8_strokes_1 cf8 lk_X8_188 (by decide) (fun _ _ _ => rfl) (fun h => ?_)
  refine E_oI h (fun v1 h => ?_)
  exact E_iret h dX8_strokes_4 rfl
def bX8_act_132 (u : Mm) (a0 : Nat) (x1 : Int32) (x5 : Int32) : Option (Int32 × Mm) := (if (x5 : Int32) < 0 then some (x5, u) else oK u a0 8 19 (oNn (mR u a0 5) (fun e10 => oK u a0 8 19 (oNn (mR u a0 7) (fun e11 => oR u e10 3 (oB (fX3_add u e10 x1 e11) (fun _ u12 => some (x5, u12))))))))
set_option maxRecDepth 100000 in
set_option maxHeartbeats 4000000 in
theorem pX8_act_132 {r : Int32} {u' : Mm} (u : Mm) (a0 : Nat) (x1 : Int32) (x5 : Int32) (h : bX8_act_132 u a0 x1 x5 = some (r, u')) : Eg MX8_act 5 0 0 (some (.int r), u') 132 [(0, .ref a0), (1, .int x1), (5, .int x5)] [] u := by
  unfold bX8_act_132 at h
  refine E_iload dX8_act_132 rfl ?_
  refine E_if_lt (tgt := 149) h dX8_act_134 (by decide) (fun h => ?_) (fun h => ?_)
  · refine E_iload dX8_act_149 rfl ?_
    exact E_iret h dX8_act_151 rfl
  · refine E_aload_n dX8_act_137 rfl rfl ?_
    refine E_getA h dX8_act_138 cf8 lk_X8_48 (by decide) (fun _ _ _ => rfl) (fun e10 h => ?_)
    refine E_iload_n dX8_act_141 rfl rfl ?_
    refine E_aload_n dX8_act_142 rfl rfl ?_
    refine E_getA h dX8_act_143 cf8 lk_X8_58 (by decide) (fun _ _ _ => rfl) (fun e11 h => ?_)
    refine F_Vv h (fun m e => tX3_add e) dX8_act_146 hm_X3_add hv_X3_add ln_X8_356 rfl rfl (Nat.le_of_ble_eq_true rfl) (Nat.le_of_ble_eq_true rfl) (kc' := 0) (ks' := 0) rfl rfl (fun u12 h => ?_)
    refine E_iload dX8_act_149 rfl ?_
    exact E_iret h dX8_act_151 rfl
def fX8_act (u : Mm) (a0 : Nat) (x1 : Int32) (x2 : Int32) (x3 : Int32) (x4 : Int32) : Option (Int32 × Mm) := oK u a0 8 19 (oNn (mR u a0 7) (fun e1 => oK u a0 8 19 (oNn (mR u a0 0) (fun e2 => oK u e2 0 16 (oNn (mR u e2 0) (fun e3 => oR u e1 1 (oB (fX1_copyFrom u e1 e3) (fun _ u4 => (if (x1 : Int32) = 260 then oK u4 a0 8 19 (oNn (mR u4 a0 1) (fun e5 => oK u4 a0 8 19 (oNn (mR u4 a0 0) (fun e6 => oK u4 e6 0 16 (oNn (mR u4 e6 0) (fun e7 => oR u4 e5 7 (oB (fX7_doAttack u4 e5 e7 x2 x3) (fun v8 u9 => bX8_act_132 u9 a0 x1 v8)))))))) else (if (x1 : Int32) = 261 then oK u4 a0 8 19 (oNn (mR u4 a0 1) (fun e13 => oK u4 a0 8 19 (oNn (mR u4 a0 0) (fun e14 => oK u4 e14 0 16 (oNn (mR u4 e14 0) (fun e15 => oR u4 e13 7 (oB (fX7_doShift u4 e13 e15 x2 x3 x4) (fun v16 u17 => bX8_act_132 u17 a0 x1 v16)))))))) else (if (x1 : Int32) = 262 then oK u4 a0 8 19 (oNn (mR u4 a0 1) (fun e18 => oK u4 a0 8 19 (oNn (mR u4 a0 0) (fun e19 => oK u4 e19 0 16 (oNn (mR u4 e19 0) (fun e20 => oR u4 e18 7 (oB (fX7_doShow u4 e18 e20 x2 x3) (fun v21 u22 => bX8_act_132 u22 a0 x1 v21)))))))) else (if (x1 : Int32) = 263 then oK u4 a0 8 19 (oNn (mR u4 a0 1) (fun e23 => oK u4 a0 8 19 (oNn (mR u4 a0 0) (fun e24 => oK u4 e24 0 16 (oNn (mR u4 e24 0) (fun e25 => oR u4 e23 7 (oB (fX7_doPass u4 e23 e25) (fun v26 u27 => bX8_act_132 u27 a0 x1 v26)))))))) else bX8_act_132 u4 a0 x1 ((-1))))))))))))))
set_option maxRecDepth 100000 in
set_option maxHeartbeats 4000000 in
theorem tX8_act {u : Mm} {a0 : Nat} {x1 : Int32} {x2 : Int32} {x3 : Int32} {x4 : Int32} {r : Int32} {u' : Mm} (h : fX8_act u a0 x1 x2 x3 x4 = some (r, u')) : Ev 5 MX8_act 0 0 [.ref a0, .int x1, .int x2, .int x3, .int x4] u (some (.int r), u') := by
  refine Ev.of (by decide +kernel) (Nat.le_of_ble_eq_true rfl) (show Eg MX8_act 5 0 0 (some (.int r), u') 0 [(0, .ref a0), (1, .int x1), (2, .int x2), (3, .int x3), (4, .int x4)] [] u from ?_)
  unfold fX8_act at h
  refine E_aload_n dX8_act_0 rfl rfl ?_
  refine E_getA h dX8_act_1 cf8 lk_X8_58 (by decide) (fun _ _ _ => rfl) (fun e1 h => ?_)
  refine E_aload_n dX8_act_4 rfl rfl ?_
  refine E_getA h dX8_act_5 cf8 lk_X8_10 (by decide) (fun _ _ _ => rfl) (fun e2 h => ?_)
  refine E_getA h dX8_act_8 cf0 lk_X8_100 (by decide) (fun _ _ _ => rfl) (fun e3 h => ?_)
  refine F_Vv h (fun m e => tX1_copyFrom e) dX8_act_11 hm_X1_copyFrom hv_X1_copyFrom ln_X8_214 rfl rfl (Nat.le_of_ble_eq_true rfl) (Nat.le_of_ble_eq_true rfl) (kc' := 0) (ks' := 0) rfl rfl (fun u4 h => ?_)
  refine E_iconst (v := (-1)) dX8_act_14 (by decide) ?_
  refine E_istore (l' := [(5, .int ((-1))), (0, .ref a0), (1, .int x1), (2, .int x2), (3, .int x3), (4, .int x4)]) dX8_act_15 (Nat.le_of_ble_eq_true rfl) rfl ?_
  refine E_iload_n dX8_act_17 rfl rfl ?_
  refine ite_cases h (fun c18_0 h => ?_) (fun c18_0 h => ?_)
  · refine E_tabIn (off := 30) (tgt := 48) dX8_act_18 c18_0 (by decide +kernel) (by decide +kernel) (by decide +kernel) (by decide) ?_
    refine E_aload_n dX8_act_48 rfl rfl ?_
    refine E_getA h dX8_act_49 cf8 lk_X8_21 (by decide) (fun _ _ _ => rfl) (fun e5 h => ?_)
    refine E_aload_n dX8_act_52 rfl rfl ?_
    refine E_getA h dX8_act_53 cf8 lk_X8_10 (by decide) (fun _ _ _ => rfl) (fun e6 h => ?_)
    refine E_getA h dX8_act_56 cf0 lk_X8_100 (by decide) (fun _ _ _ => rfl) (fun e7 h => ?_)
    refine E_iload_n dX8_act_59 rfl rfl ?_
    refine E_iload_n dX8_act_60 rfl rfl ?_
    refine F_Vi h (fun a m e => tX7_doAttack e) dX8_act_61 hm_X7_doAttack hv_X7_doAttack ln_X8_343 rfl rfl (Nat.le_of_ble_eq_true rfl) (Nat.le_of_ble_eq_true rfl) (kc' := 0) (ks' := 0) rfl rfl (fun v8 u9 h => ?_)
    refine E_istore (l' := [(5, .int v8), (0, .ref a0), (1, .int x1), (2, .int x2), (3, .int x3), (4, .int x4)]) dX8_act_64 (Nat.le_of_ble_eq_true rfl) rfl ?_
    refine E_goto (tgt := 132) dX8_act_66 (by decide) ?_
    refine Eg.pick [1, 2, 0] rfl ?_
    exact pX8_act_132 _ _ _ _ h
  · refine ite_cases h (fun c18_1 h => ?_) (fun c18_1 h => ?_)
    · refine E_tabIn (off := 51) (tgt := 69) dX8_act_18 c18_1 (by decide +kernel) (by decide +kernel) (by decide +kernel) (by decide) ?_
      refine E_aload_n dX8_act_69 rfl rfl ?_
      refine E_getA h dX8_act_70 cf8 lk_X8_21 (by decide) (fun _ _ _ => rfl) (fun e13 h => ?_)
      refine E_aload_n dX8_act_73 rfl rfl ?_
      refine E_getA h dX8_act_74 cf8 lk_X8_10 (by decide) (fun _ _ _ => rfl) (fun e14 h => ?_)
      refine E_getA h dX8_act_77 cf0 lk_X8_100 (by decide) (fun _ _ _ => rfl) (fun e15 h => ?_)
      refine E_iload_n dX8_act_80 rfl rfl ?_
      refine E_iload_n dX8_act_81 rfl rfl ?_
      refine E_iload dX8_act_82 rfl ?_
      refine F_Vi h (fun a m e => tX7_doShift e) dX8_act_84 hm_X7_doShift hv_X7_doShift ln_X8_346 rfl rfl (Nat.le_of_ble_eq_true rfl) (Nat.le_of_ble_eq_true rfl) (kc' := 0) (ks' := 0) rfl rfl (fun v16 u17 h => ?_)
      refine E_istore (l' := [(5, .int v16), (0, .ref a0), (1, .int x1), (2, .int x2), (3, .int x3), (4, .int x4)]) dX8_act_87 (Nat.le_of_ble_eq_true rfl) rfl ?_
      refine E_goto (tgt := 132) dX8_act_89 (by decide) ?_
      refine Eg.pick [1, 2, 0] rfl ?_
      exact pX8_act_132 _ _ _ _ h
    · refine ite_cases h (fun c18_2 h => ?_) (fun c18_2 h => ?_)
      · refine E_tabIn (off := 74) (tgt := 92) dX8_act_18 c18_2 (by decide +kernel) (by decide +kernel) (by decide +kernel) (by decide) ?_
        refine E_aload_n dX8_act_92 rfl rfl ?_
        refine E_getA h dX8_act_93 cf8 lk_X8_21 (by decide) (fun _ _ _ => rfl) (fun e18 h => ?_)
        refine E_aload_n dX8_act_96 rfl rfl ?_
        refine E_getA h dX8_act_97 cf8 lk_X8_10 (by decide) (fun _ _ _ => rfl) (fun e19 h => ?_)
        refine E_getA h dX8_act_100 cf0 lk_X8_100 (by decide) (fun _ _ _ => rfl) (fun e20 h => ?_)
        refine E_iload_n dX8_act_103 rfl rfl ?_
        refine E_iload_n dX8_act_104 rfl rfl ?_
        refine F_Vi h (fun a m e => tX7_doShow e) dX8_act_105 hm_X7_doShow hv_X7_doShow ln_X8_350 rfl rfl (Nat.le_of_ble_eq_true rfl) (Nat.le_of_ble_eq_true rfl) (kc' := 0) (ks' := 0) rfl rfl (fun v21 u22 h => ?_)
        refine E_istore (l' := [(5, .int v21), (0, .ref a0), (1, .int x1), (2, .int x2), (3, .int x3), (4, .int x4)]) dX8_act_108 (Nat.le_of_ble_eq_true rfl) rfl ?_
        refine E_goto (tgt := 132) dX8_act_110 (by decide) ?_
        refine Eg.pick [1, 2, 0] rfl ?_
        exact pX8_act_132 _ _ _ _ h
      · refine ite_cases h (fun c18_3 h => ?_) (fun c18_3 h => ?_)
        · refine E_tabIn (off := 95) (tgt := 113) dX8_act_18 c18_3 (by decide +kernel) (by decide +kernel) (by decide +kernel) (by decide) ?_
          refine E_aload_n dX8_act_113 rfl rfl ?_
          refine E_getA h dX8_act_114 cf8 lk_X8_21 (by decide) (fun _ _ _ => rfl) (fun e23 h => ?_)
          refine E_aload_n dX8_act_117 rfl rfl ?_
          refine E_getA h dX8_act_118 cf8 lk_X8_10 (by decide) (fun _ _ _ => rfl) (fun e24 h => ?_)
          refine E_getA h dX8_act_121 cf0 lk_X8_100 (by decide) (fun _ _ _ => rfl) (fun e25 h => ?_)
          refine F_Vi h (fun a m e => tX7_doPass e) dX8_act_124 hm_X7_doPass hv_X7_doPass ln_X8_353 rfl rfl (Nat.le_of_ble_eq_true rfl) (Nat.le_of_ble_eq_true rfl) (kc' := 0) (ks' := 0) rfl rfl (fun v26 u27 h => ?_)
          refine E_istore (l' := [(5, .int v26), (0, .ref a0), (1, .int x1), (2, .int x2), (3, .int x3), (4, .int x4)]) dX8_act_127 (Nat.le_of_ble_eq_true rfl) rfl ?_
          refine E_goto (tgt := 132) dX8_act_129 (by decide) ?_
          refine Eg.pick [1, 2, 0] rfl ?_
          exact pX8_act_132 _ _ _ _ h
        · refine E_tabD (tgt := 132) [260, 261, 262, 263] dX8_act_18 (by intro k hk; simp only [List.mem_cons, List.not_mem_nil, or_false] at hk; rcases hk with rfl | rfl | rfl | rfl <;> first | exact ne_lit (by decide +kernel) c18_0 | exact ne_lit (by decide +kernel) c18_1 | exact ne_lit (by decide +kernel) c18_2 | exact ne_lit (by decide +kernel) c18_3) (by decide +kernel) (by decide) ?_
          refine Eg.pick [1, 2, 0] rfl ?_
          exact pX8_act_132 _ _ _ _ h
def bX8_runOrders_234 (k16 : Mm → Nat → Nat → Nat → Int32 → Int32 → Int32 → Option (Int32 × Mm)) (k28 : Mm → Nat → Nat → Nat → Int32 → Int32 → Int32 → Int32 → Option (Int32 × Mm)) (u : Mm) (a0 : Nat) (a1 : Nat) (a2 : Nat) (x3 : Int32) (x4 : Int32) (x5 : Int32) (x6 : Int32) : Option (Int32 × Mm) := k28 u a0 a1 a2 x3 x4 x5 (x6 + 1)
set_option maxRecDepth 100000 in
set_option maxHeartbeats 4000000 in
theorem pX8_runOrders_234 {r : Int32} {u' : Mm} {k16 : Mm → Nat → Nat → Nat → Int32 → Int32 → Int32 → Option (Int32 × Mm)} (hk16 : ∀ (u : Mm) (a0 : Nat) (a1 : Nat) (a2 : Nat) (x3 : Int32) (x4 : Int32) (x5 : Int32), k16 u a0 a1 a2 x3 x4 x5 = some (r, u') → Eg MX8_runOrders 6 0 0 (some (.int r), u') 16 [(0, .ref a0), (1, .ref a1), (2, .ref a2), (3, .int x3), (4, .int x4), (5, .int x5)] [] u) {k28 : Mm → Nat → Nat → Nat → Int32 → Int32 → Int32 → Int32 → Option (Int32 × Mm)} (hk28 : ∀ (u : Mm) (a0 : Nat) (a1 : Nat) (a2 : Nat) (x3 : Int32) (x4 : Int32) (x5 : Int32) (x6 : Int32), k28 u a0 a1 a2 x3 x4 x5 x6 = some (r, u') → Eg MX8_runOrders 6 0 0 (some (.int r), u') 28 [(0, .ref a0), (1, .ref a1), (2, .ref a2), (3, .int x3), (4, .int x4), (5, .int x5), (6, .int x6)] [] u) (u : Mm) (a0 : Nat) (a1 : Nat) (a2 : Nat) (x3 : Int32) (x4 : Int32) (x5 : Int32) (x6 : Int32) (h : bX8_runOrders_234 k16 k28 u a0 a1 a2 x3 x4 x5 x6 = some (r, u')) : Eg MX8_runOrders 6 0 0 (some (.int r), u') 234 [(0, .ref a0), (1, .ref a1), (2, .ref a2), (3, .int x3), (4, .int x4), (5, .int x5), (6, .int x6)] [] u := by
  unfold bX8_runOrders_234 at h
  refine E_iinc (j := 6) (v := x6 + 1) (l' := [(6, .int (x6 + 1)), (0, .ref a0), (1, .ref a1), (2, .ref a2), (3, .int x3), (4, .int x4), (5, .int x5)]) dX8_runOrders_234 rfl (addI (by decide)) (Nat.le_of_ble_eq_true rfl) rfl ?_
  refine E_goto (tgt := 28) dX8_runOrders_237 (by decide) ?_
  refine Eg.pick [1, 2, 3, 4, 5, 6, 0] rfl ?_
  exact hk28 _ _ _ _ _ _ _ _ h
def bX8_runOrders_229 (k16 : Mm → Nat → Nat → Nat → Int32 → Int32 → Int32 → Option (Int32 × Mm)) (k28 : Mm → Nat → Nat → Nat → Int32 → Int32 → Int32 → Int32 → Option (Int32 × Mm)) (u : Mm) (a0 : Nat) (a1 : Nat) (a2 : Nat) (x3 : Int32) (x5 : Int32) (x6 : Int32) (s0 : Int32) : Option (Int32 × Mm) := bX8_runOrders_234 k16 k28 u a0 a1 a2 (x3 + 1) s0 x5 x6
set_option maxRecDepth 100000 in
set_option maxHeartbeats 4000000 in
theorem pX8_runOrders_229 {r : Int32} {u' : Mm} {k16 : Mm → Nat → Nat → Nat → Int32 → Int32 → Int32 → Option (Int32 × Mm)} (hk16 : ∀ (u : Mm) (a0 : Nat) (a1 : Nat) (a2 : Nat) (x3 : Int32) (x4 : Int32) (x5 : Int32), k16 u a0 a1 a2 x3 x4 x5 = some (r, u') → Eg MX8_runOrders 6 0 0 (some (.int r), u') 16 [(0, .ref a0), (1, .ref a1), (2, .ref a2), (3, .int x3), (4, .int x4), (5, .int x5)] [] u) {k28 : Mm → Nat → Nat → Nat → Int32 → Int32 → Int32 → Int32 → Option (Int32 × Mm)} (hk28 : ∀ (u : Mm) (a0 : Nat) (a1 : Nat) (a2 : Nat) (x3 : Int32) (x4 : Int32) (x5 : Int32) (x6 : Int32), k28 u a0 a1 a2 x3 x4 x5 x6 = some (r, u') → Eg MX8_runOrders 6 0 0 (some (.int r), u') 28 [(0, .ref a0), (1, .ref a1), (2, .ref a2), (3, .int x3), (4, .int x4), (5, .int x5), (6, .int x6)] [] u) (u : Mm) (a0 : Nat) (a1 : Nat) (a2 : Nat) (x3 : Int32) (x5 : Int32) (x6 : Int32) (s0 : Int32) (h : bX8_runOrders_229 k16 k28 u a0 a1 a2 x3 x5 x6 s0 = some (r, u')) : Eg MX8_runOrders 6 0 0 (some (.int r), u') 229 [(0, .ref a0), (1, .ref a1), (2, .ref a2), (3, .int x3), (5, .int x5), (6, .int x6)] [.int s0] u := by
  unfold bX8_runOrders_229 at h
  refine E_istore (l' := [(4, .int s0), (0, .ref a0), (1, .ref a1), (2, .ref a2), (3, .int x3), (5, .int x5), (6, .int x6)]) dX8_runOrders_229 (Nat.le_of_ble_eq_true rfl) rfl ?_
  refine E_iinc (j := 4) (v := x3 + 1) (l' := [(3, .int (x3 + 1)), (4, .int s0), (0, .ref a0), (1, .ref a1), (2, .ref a2), (5, .int x5), (6, .int x6)]) dX8_runOrders_231 rfl (addI (by decide)) (Nat.le_of_ble_eq_true rfl) rfl ?_
  refine Eg.pick [2, 3, 4, 0, 1, 5, 6] rfl ?_
  exact pX8_runOrders_234 hk16 hk28 _ _ _ _ _ _ _ _ h
def bX8_runOrders_199 (k16 : Mm → Nat → Nat → Nat → Int32 → Int32 → Int32 → Option (Int32 × Mm)) (k28 : Mm → Nat → Nat → Nat → Int32 → Int32 → Int32 → Int32 → Option (Int32 × Mm)) (u : Mm) (a0 : Nat) (a1 : Nat) (a2 : Nat) (x3 : Int32) (x4 : Int32) (x5 : Int32) (x6 : Int32) (x9 : Int32) (s0 : Int32) : Option (Int32 × Mm) := (if 0 ≤ (s0 : Int32) then (if (x9 : Int32) = 260 then bX8_runOrders_229 k16 k28 u a0 a1 a2 x3 x5 x6 s0 else bX8_runOrders_229 k16 k28 u a0 a1 a2 x3 x5 x6 x4) else oK u a0 8 19 (oU (wI u a0 (upd (mI u a0) 15 x5)) (fun u13 => some ((-1), u13))))
set_option maxRecDepth 100000 in
set_option maxHeartbeats 4000000 in
theorem pX8_runOrders_199 {r : Int32} {u' : Mm} {k16 : Mm → Nat → Nat → Nat → Int32 → Int32 → Int32 → Option (Int32 × Mm)} (hk16 : ∀ (u : Mm) (a0 : Nat) (a1 : Nat) (a2 : Nat) (x3 : Int32) (x4 : Int32) (x5 : Int32), k16 u a0 a1 a2 x3 x4 x5 = some (r, u') → Eg MX8_runOrders 6 0 0 (some (.int r), u') 16 [(0, .ref a0), (1, .ref a1), (2, .ref a2), (3, .int x3), (4, .int x4), (5, .int x5)] [] u) {k28 : Mm → Nat → Nat → Nat → Int32 → Int32 → Int32 → Int32 → Option (Int32 × Mm)} (hk28 : ∀ (u : Mm) (a0 : Nat) (a1 : Nat) (a2 : Nat) (x3 : Int32) (x4 : Int32) (x5 : Int32) (x6 : Int32), k28 u a0 a1 a2 x3 x4 x5 x6 = some (r, u') → Eg MX8_runOrders 6 0 0 (some (.int r), u') 28 [(0, .ref a0), (1, .ref a1), (2, .ref a2), (3, .int x3), (4, .int x4), (5, .int x5), (6, .int x6)] [] u) (u : Mm) (a0 : Nat) (a1 : Nat) (a2 : Nat) (x3 : Int32) (x4 : Int32) (x5 : Int32) (x6 : Int32) (x9 : Int32) (s0 : Int32) (h : bX8_runOrders_199 k16 k28 u a0 a1 a2 x3 x4 x5 x6 x9 s0 = some (r, u')) : Eg MX8_runOrders 6 0 0 (some (.int r), u') 199 [(0, .ref a0), (1, .ref a1), (2, .ref a2), (3, .int x3), (4, .int x4), (5, .int x5), (6, .int x6), (9, .int x9)] [.int s0] u := by
  unfold bX8_runOrders_199 at h
  refine E_istore (l' := [(10, .int s0), (0, .ref a0), (1, .ref a1), (2, .ref a2), (3, .int x3), (4, .int x4), (5, .int x5), (6, .int x6), (9, .int x9)]) dX8_runOrders_199 (Nat.le_of_ble_eq_true rfl) rfl ?_
  refine E_iload dX8_runOrders_201 rfl ?_
  refine E_if_ge (tgt := 214) h dX8_runOrders_203 (by decide) (fun h => ?_) (fun h => ?_)
  · refine E_iload dX8_runOrders_214 rfl ?_
    refine E_sipush (v := 260) dX8_runOrders_216 (by decide) ?_
    refine E_ic_ne (tgt := 227) h dX8_runOrders_219 (by decide) (fun h => ?_) (fun h => ?_)
    · refine E_iload dX8_runOrders_227 rfl ?_
      refine Eg.pick [1, 2, 3, 4, 6, 7] rfl ?_
      exact pX8_runOrders_229 hk16 hk28 _ _ _ _ _ _ _ _ h
    · refine E_iload dX8_runOrders_222 rfl ?_
      refine E_goto (tgt := 229) dX8_runOrders_224 (by decide) ?_
      refine Eg.pick [1, 2, 3, 4, 6, 7] rfl ?_
      exact pX8_runOrders_229 hk16 hk28 _ _ _ _ _ _ _ _ h
  · refine E_aload_n dX8_runOrders_206 rfl rfl ?_
    refine E_iload dX8_runOrders_207 rfl ?_
    refine E_putI h dX8_runOrders_209 cf8 lk_X8_76 (by decide) (Or.inl rfl) rfl (fun h => ?_)
    refine E_oU h (fun u13 h => ?_)
    refine E_iconst (v := (-1)) dX8_runOrders_212 (by decide) ?_
    exact E_iret h dX8_runOrders_213 rfl
def bX8_runOrders_138 (k16 : Mm → Nat → Nat → Nat → Int32 → Int32 → Int32 → Option (Int32 × Mm)) (k28 : Mm → Nat → Nat → Nat → Int32 → Int32 → Int32 → Int32 → Option (Int32 × Mm)) (k94 : Mm → Nat → Nat → Nat → Int32 → Int32 → Int32 → Int32 → Int32 → Int32 → Option (Int32 × Mm)) (u : Mm) (a0 : Nat) (a1 : Nat) (a2 : Nat) (x3 : Int32) (x4 : Int32) (x5 : Int32) (x6 : Int32) (x9 : Int32) (y10 : Int64) (s0 : Int32) : Option (Int32 × Mm) := oK u a0 8 19 (oNn (mR u a0 16) (fun e26 => oA u e26 10 x9 (oU (wI u e26 (upd (mI u e26) (Int32.toNatClampNeg x9) (Int64.toInt32 y10))) (fun u27 => k94 u27 a0 a1 a2 x3 x4 x5 x6 s0 (x9 + 1)))))
set_option maxRecDepth 100000 in
set_option maxHeartbeats 4000000 in
theorem pX8_runOrders_138 {r : Int32} {u' : Mm} {k16 : Mm → Nat → Nat → Nat → Int32 → Int32 → Int32 → Option (Int32 × Mm)} (hk16 : ∀ (u : Mm) (a0 : Nat) (a1 : Nat) (a2 : Nat) (x3 : Int32) (x4 : Int32) (x5 : Int32), k16 u a0 a1 a2 x3 x4 x5 = some (r, u') → Eg MX8_runOrders 6 0 0 (some (.int r), u') 16 [(0, .ref a0), (1, .ref a1), (2, .ref a2), (3, .int x3), (4, .int x4), (5, .int x5)] [] u) {k28 : Mm → Nat → Nat → Nat → Int32 → Int32 → Int32 → Int32 → Option (Int32 × Mm)} (hk28 : ∀ (u : Mm) (a0 : Nat) (a1 : Nat) (a2 : Nat) (x3 : Int32) (x4 : Int32) (x5 : Int32) (x6 : Int32), k28 u a0 a1 a2 x3 x4 x5 x6 = some (r, u') → Eg MX8_runOrders 6 0 0 (some (.int r), u') 28 [(0, .ref a0), (1, .ref a1), (2, .ref a2), (3, .int x3), (4, .int x4), (5, .int x5), (6, .int x6)] [] u) {k94 : Mm → Nat → Nat → Nat → Int32 → Int32 → Int32 → Int32 → Int32 → Int32 → Option (Int32 × Mm)} (hk94 : ∀ (u : Mm) (a0 : Nat) (a1 : Nat) (a2 : Nat) (x3 : Int32) (x4 : Int32) (x5 : Int32) (x6 : Int32) (x8 : Int32) (x9 : Int32), k94 u a0 a1 a2 x3 x4 x5 x6 x8 x9 = some (r, u') → Eg MX8_runOrders 6 0 0 (some (.int r), u') 94 [(0, .ref a0), (1, .ref a1), (2, .ref a2), (3, .int x3), (4, .int x4), (5, .int x5), (6, .int x6), (8, .int x8), (9, .int x9)] [] u) (u : Mm) (a0 : Nat) (a1 : Nat) (a2 : Nat) (x3 : Int32) (x4 : Int32) (x5 : Int32) (x6 : Int32) (x9 : Int32) (y10 : Int64) (s0 : Int32) (h : bX8_runOrders_138 k16 k28 k94 u a0 a1 a2 x3 x4 x5 x6 x9 y10 s0 = some (r, u')) : Eg MX8_runOrders 6 0 0 (some (.int r), u') 138 [(0, .ref a0), (1, .ref a1), (2, .ref a2), (3, .int x3), (4, .int x4), (5, .int x5), (6, .int x6), (9, .int x9), (10, .long y10)] [.int s0] u := by
  unfold bX8_runOrders_138 at h
  refine E_istore (l' := [(8, .int s0), (0, .ref a0), (1, .ref a1), (2, .ref a2), (3, .int x3), (4, .int x4), (5, .int x5), (6, .int x6), (9, .int x9), (10, .long y10)]) dX8_runOrders_138 (Nat.le_of_ble_eq_true rfl) rfl ?_
  refine E_aload_n dX8_runOrders_140 rfl rfl ?_
  refine E_getA h dX8_runOrders_141 cf8 lk_X8_79 (by decide) (fun _ _ _ => rfl) (fun e26 h => ?_)
  refine E_iload dX8_runOrders_144 rfl ?_
  refine E_lload dX8_runOrders_146 rfl ?_
  refine E_l2i dX8_runOrders_148 ?_
  refine E_iast h dX8_runOrders_149 (fun h => ?_)
  refine E_oU h (fun u27 h => ?_)
  refine E_iinc (j := 8) (v := x9 + 1) (l' := [(9, .int (x9 + 1)), (8, .int s0), (0, .ref a0), (1, .ref a1), (2, .ref a2), (3, .int x3), (4, .int x4), (5, .int x5), (6, .int x6), (10, .long y10)]) dX8_runOrders_150 rfl (addI (by decide)) (Nat.le_of_ble_eq_true rfl) rfl ?_
  refine E_goto (tgt := 94) dX8_runOrders_153 (by decide) ?_
  refine Eg.pick [2, 3, 4, 5, 6, 7, 8, 1, 0] rfl ?_
  exact hk94 _ _ _ _ _ _ _ _ _ _ h
def bX8_runOrders_137 (k16 : Mm → Nat → Nat → Nat → Int32 → Int32 → Int32 → Option (Int32 × Mm)) (k28 : Mm → Nat → Nat → Nat → Int32 → Int32 → Int32 → Int32 → Option (Int32 × Mm)) (k94 : Mm → Nat → Nat → Nat → Int32 → Int32 → Int32 → Int32 → Int32 → Int32 → Option (Int32 × Mm)) (u : Mm) (a0 : Nat) (a1 : Nat) (a2 : Nat) (x3 : Int32) (x4 : Int32) (x5 : Int32) (x6 : Int32) (x9 : Int32) (y10 : Int64) : Option (Int32 × Mm) := bX8_runOrders_138 k16 k28 k94 u a0 a1 a2 x3 x4 x5 x6 x9 y10 0
set_option maxRecDepth 100000 in
set_option maxHeartbeats 4000000 in
theorem pX8_runOrders_137 {r : Int32} {u' : Mm} {k16 : Mm → Nat → Nat → Nat → Int32 → Int32 → Int32 → Option (Int32 × Mm)} (hk16 : ∀ (u : Mm) (a0 : Nat) (a1 : Nat) (a2 : Nat) (x3 : Int32) (x4 : Int32) (x5 : Int32), k16 u a0 a1 a2 x3 x4 x5 = some (r, u') → Eg MX8_runOrders 6 0 0 (some (.int r), u') 16 [(0, .ref a0), (1, .ref a1), (2, .ref a2), (3, .int x3), (4, .int x4), (5, .int x5)] [] u) {k28 : Mm → Nat → Nat → Nat → Int32 → Int32 → Int32 → Int32 → Option (Int32 × Mm)} (hk28 : ∀ (u : Mm) (a0 : Nat) (a1 : Nat) (a2 : Nat) (x3 : Int32) (x4 : Int32) (x5 : Int32) (x6 : Int32), k28 u a0 a1 a2 x3 x4 x5 x6 = some (r, u') → Eg MX8_runOrders 6 0 0 (some (.int r), u') 28 [(0, .ref a0), (1, .ref a1), (2, .ref a2), (3, .int x3), (4, .int x4), (5, .int x5), (6, .int x6)] [] u) {k94 : Mm → Nat → Nat → Nat → Int32 → Int32 → Int32 → Int32 → Int32 → Int32 → Option (Int32 × Mm)} (hk94 : ∀ (u : Mm) (a0 : Nat) (a1 : Nat) (a2 : Nat) (x3 : Int32) (x4 : Int32) (x5 : Int32) (x6 : Int32) (x8 : Int32) (x9 : Int32), k94 u a0 a1 a2 x3 x4 x5 x6 x8 x9 = some (r, u') → Eg MX8_runOrders 6 0 0 (some (.int r), u') 94 [(0, .ref a0), (1, .ref a1), (2, .ref a2), (3, .int x3), (4, .int x4), (5, .int x5), (6, .int x6), (8, .int x8), (9, .int x9)] [] u) (u : Mm) (a0 : Nat) (a1 : Nat) (a2 : Nat) (x3 : Int32) (x4 : Int32) (x5 : Int32) (x6 : Int32) (x9 : Int32) (y10 : Int64) (h : bX8_runOrders_137 k16 k28 k94 u a0 a1 a2 x3 x4 x5 x6 x9 y10 = some (r, u')) : Eg MX8_runOrders 6 0 0 (some (.int r), u') 137 [(0, .ref a0), (1, .ref a1), (2, .ref a2), (3, .int x3), (4, .int x4), (5, .int x5), (6, .int x6), (9, .int x9), (10, .long y10)] [] u := by
  unfold bX8_runOrders_137 at h
  refine E_iconst (v := 0) dX8_runOrders_137 (by decide) ?_
  refine Eg.pick [0, 1, 2, 3, 4, 5, 6, 7, 8] rfl ?_
  exact pX8_runOrders_138 hk16 hk28 hk94 _ _ _ _ _ _ _ _ _ _ _ h
def bX8_runOrders_94 (k16 : Mm → Nat → Nat → Nat → Int32 → Int32 → Int32 → Option (Int32 × Mm)) (k28 : Mm → Nat → Nat → Nat → Int32 → Int32 → Int32 → Int32 → Option (Int32 × Mm)) (k94 : Mm → Nat → Nat → Nat → Int32 → Int32 → Int32 → Int32 → Int32 → Int32 → Option (Int32 × Mm)) (u : Mm) (a0 : Nat) (a1 : Nat) (a2 : Nat) (x3 : Int32) (x4 : Int32) (x5 : Int32) (x6 : Int32) (x8 : Int32) (x9 : Int32) : Option (Int32 × Mm) := (if (3 : Int32) ≤ x9 then oK u a1 6 7 (oNn (mR u a1 3) (fun e11 => oA u e11 10 x5 (oI (mI u e11 (Int32.toNatClampNeg x5)) (fun v12 => (if (x8 : Int32) = 0 then bX8_runOrders_199 k16 k28 u a0 a1 a2 x3 x4 x5 x6 v12 ((-3)) else oK u a0 8 19 (oNn (mR u a0 16) (fun e14 => oA u e14 10 0 (oI (mI u e14 (Int32.toNatClampNeg 0)) (fun v15 => oK u a0 8 19 (oNn (mR u a0 16) (fun e16 => oA u e16 10 1 (oI (mI u e16 (Int32.toNatClampNeg 1)) (fun v17 => oK u a0 8 19 (oNn (mR u a0 16) (fun e18 => oA u e18 10 2 (oI (mI u e18 (Int32.toNatClampNeg 2)) (fun v19 => oR u a0 8 (oB (fX8_act u a0 v12 v15 v17 v19) (fun v20 u21 => bX8_runOrders_199 k16 k28 u21 a0 a1 a2 x3 x4 x5 x6 v12 v20))))))))))))))))))) else oK u a1 6 7 (oNn (mR u a1 5) (fun e22 => oA u e22 10 ((x5 * 4) + x9) (oI (mI u e22 (Int32.toNatClampNeg ((x5 * 4) + x9))) (fun v23 => oR u a2 5 (oB (fX5_valueOf u a2 a1 v23) (fun w24 u25 => (if (x8 : Int32) = 0 then bX8_runOrders_137 k16 k28 k94 u25 a0 a1 a2 x3 x4 x5 x6 x9 w24 else (if (lg_cmp w24 4000000000 : Int32) = 0 then bX8_runOrders_137 k16 k28 k94 u25 a0 a1 a2 x3 x4 x5 x6 x9 w24 else bX8_runOrders_138 k16 k28 k94 u25 a0 a1 a2 x3 x4 x5 x6 x9 w24 1)))))))))
set_option maxRecDepth 100000 in
set_option maxHeartbeats 4000000 in
theorem pX8_runOrders_94 {r : Int32} {u' : Mm} {k16 : Mm → Nat → Nat → Nat → Int32 → Int32 → Int32 → Option (Int32 × Mm)} (hk16 : ∀ (u : Mm) (a0 : Nat) (a1 : Nat) (a2 : Nat) (x3 : Int32) (x4 : Int32) (x5 : Int32), k16 u a0 a1 a2 x3 x4 x5 = some (r, u') → Eg MX8_runOrders 6 0 0 (some (.int r), u') 16 [(0, .ref a0), (1, .ref a1), (2, .ref a2), (3, .int x3), (4, .int x4), (5, .int x5)] [] u) {k28 : Mm → Nat → Nat → Nat → Int32 → Int32 → Int32 → Int32 → Option (Int32 × Mm)} (hk28 : ∀ (u : Mm) (a0 : Nat) (a1 : Nat) (a2 : Nat) (x3 : Int32) (x4 : Int32) (x5 : Int32) (x6 : Int32), k28 u a0 a1 a2 x3 x4 x5 x6 = some (r, u') → Eg MX8_runOrders 6 0 0 (some (.int r), u') 28 [(0, .ref a0), (1, .ref a1), (2, .ref a2), (3, .int x3), (4, .int x4), (5, .int x5), (6, .int x6)] [] u) {k94 : Mm → Nat → Nat → Nat → Int32 → Int32 → Int32 → Int32 → Int32 → Int32 → Option (Int32 × Mm)} (hk94 : ∀ (u : Mm) (a0 : Nat) (a1 : Nat) (a2 : Nat) (x3 : Int32) (x4 : Int32) (x5 : Int32) (x6 : Int32) (x8 : Int32) (x9 : Int32), k94 u a0 a1 a2 x3 x4 x5 x6 x8 x9 = some (r, u') → Eg MX8_runOrders 6 0 0 (some (.int r), u') 94 [(0, .ref a0), (1, .ref a1), (2, .ref a2), (3, .int x3), (4, .int x4), (5, .int x5), (6, .int x6), (8, .int x8), (9, .int x9)] [] u) (u : Mm) (a0 : Nat) (a1 : Nat) (a2 : Nat) (x3 : Int32) (x4 : Int32) (x5 : Int32) (x6 : Int32) (x8 : Int32) (x9 : Int32) (h : bX8_runOrders_94 k16 k28 k94 u a0 a1 a2 x3 x4 x5 x6 x8 x9 = some (r, u')) : Eg MX8_runOrders 6 0 0 (some (.int r), u') 94 [(0, .ref a0), (1, .ref a1), (2, .ref a2), (3, .int x3), (4, .int x4), (5, .int x5), (6, .int x6), (8, .int x8), (9, .int x9)] [] u := by
  unfold bX8_runOrders_94 at h
  refine E_iload dX8_runOrders_94 rfl ?_
  refine E_iconst (v := 3) dX8_runOrders_96 (by decide) ?_
  refine E_ic_ge (tgt := 156) h dX8_runOrders_97 (by decide) (fun h => ?_) (fun h => ?_)
  · refine E_aload_n dX8_runOrders_156 rfl rfl ?_
    refine E_getA h dX8_runOrders_157 cf6 lk_X8_385 (by decide) (fun _ _ _ => rfl) (fun e11 h => ?_)
    refine E_iload dX8_runOrders_160 rfl ?_
    refine E_iald h dX8_runOrders_162 (fun h => ?_)
    refine E_oI h (fun v12 h => ?_)
    refine E_istore (l' := [(9, .int v12), (0, .ref a0), (1, .ref a1), (2, .ref a2), (3, .int x3), (4, .int x4), (5, .int x5), (6, .int x6), (8, .int x8)]) dX8_runOrders_163 (Nat.le_of_ble_eq_true rfl) rfl ?_
    refine E_iload dX8_runOrders_165 rfl ?_
    refine E_if_eq (tgt := 197) h dX8_runOrders_167 (by decide) (fun h => ?_) (fun h => ?_)
    · refine E_bipush (v := (-3)) dX8_runOrders_197 (by decide) ?_
      refine Eg.pick [1, 2, 3, 4, 5, 6, 7, 0] rfl ?_
      exact pX8_runOrders_199 hk16 hk28 _ _ _ _ _ _ _ _ _ _ h
    · refine E_aload_n dX8_runOrders_170 rfl rfl ?_
      refine E_iload dX8_runOrders_171 rfl ?_
      refine E_aload_n dX8_runOrders_173 rfl rfl ?_
      refine E_getA h dX8_runOrders_174 cf8 lk_X8_79 (by decide) (fun _ _ _ => rfl) (fun e14 h => ?_)
      refine E_iconst (v := 0) dX8_runOrders_177 (by decide) ?_
      refine E_iald h dX8_runOrders_178 (fun h => ?_)
      refine E_oI h (fun v15 h => ?_)
      refine E_aload_n dX8_runOrders_179 rfl rfl ?_
      refine E_getA h dX8_runOrders_180 cf8 lk_X8_79 (by decide) (fun _ _ _ => rfl) (fun e16 h => ?_)
      refine E_iconst (v := 1) dX8_runOrders_183 (by decide) ?_
      refine E_iald h dX8_runOrders_184 (fun h => ?_)
      refine E_oI h (fun v17 h => ?_)
      refine E_aload_n dX8_runOrders_185 rfl rfl ?_
      refine E_getA h dX8_runOrders_186 cf8 lk_X8_79 (by decide) (fun _ _ _ => rfl) (fun e18 h => ?_)
      refine E_iconst (v := 2) dX8_runOrders_189 (by decide) ?_
      refine E_iald h dX8_runOrders_190 (fun h => ?_)
      refine E_oI h (fun v19 h => ?_)
      refine F_Vi h (fun a m e => tX8_act e) dX8_runOrders_191 hm_X8_act hv_X8_act ln_X8_231 rfl rfl (Nat.le_of_ble_eq_true rfl) (Nat.le_of_ble_eq_true rfl) (kc' := 0) (ks' := 0) rfl rfl (fun v20 u21 h => ?_)
      refine E_goto (tgt := 199) dX8_runOrders_194 (by decide) ?_
      refine Eg.pick [1, 2, 3, 4, 5, 6, 7, 0] rfl ?_
      exact pX8_runOrders_199 hk16 hk28 _ _ _ _ _ _ _ _ _ _ h
  · refine E_aload_n dX8_runOrders_100 rfl rfl ?_
    refine E_aload_n dX8_runOrders_101 rfl rfl ?_
    refine E_aload_n dX8_runOrders_102 rfl rfl ?_
    refine E_getA h dX8_runOrders_103 cf6 lk_X8_376 (by decide) (fun _ _ _ => rfl) (fun e22 h => ?_)
    refine E_iload dX8_runOrders_106 rfl ?_
    refine E_iconst (v := 4) dX8_runOrders_108 (by decide) ?_
    refine E_imul dX8_runOrders_109 ?_
    refine E_iload dX8_runOrders_110 rfl ?_
    refine E_iadd dX8_runOrders_112 ?_
    refine E_iald h dX8_runOrders_113 (fun h => ?_)
    refine E_oI h (fun v23 h => ?_)
    refine F_Vl h (fun a m e => tX5_valueOf e) dX8_runOrders_114 hm_X5_valueOf hv_X5_valueOf ln_X8_379 rfl rfl (Nat.le_of_ble_eq_true rfl) (Nat.le_of_ble_eq_true rfl) (kc' := 0) (ks' := 0) rfl rfl (fun w24 u25 h => ?_)
    refine E_lstore (l' := [(10, .long w24), (0, .ref a0), (1, .ref a1), (2, .ref a2), (3, .int x3), (4, .int x4), (5, .int x5), (6, .int x6), (8, .int x8), (9, .int x9)]) dX8_runOrders_117 (Nat.le_of_ble_eq_true rfl) rfl ?_
    refine E_iload dX8_runOrders_119 rfl ?_
    refine E_if_eq (tgt := 137) h dX8_runOrders_121 (by decide) (fun h => ?_) (fun h => ?_)
    · refine Eg.pick [1, 2, 3, 4, 5, 6, 7, 9, 0] rfl ?_
      exact pX8_runOrders_137 hk16 hk28 hk94 _ _ _ _ _ _ _ _ _ _ h
    · refine E_lload dX8_runOrders_124 rfl ?_
      refine E_ldc2 dX8_runOrders_126 rfl cn_X8_383 ?_
      refine E_lcmp dX8_runOrders_129 ?_
      refine E_if_eq (tgt := 137) h dX8_runOrders_130 (by decide) (fun h => ?_) (fun h => ?_)
      · refine Eg.pick [1, 2, 3, 4, 5, 6, 7, 9, 0] rfl ?_
        exact pX8_runOrders_137 hk16 hk28 hk94 _ _ _ _ _ _ _ _ _ _ h
      · refine E_iconst (v := 1) dX8_runOrders_133 (by decide) ?_
        refine E_goto (tgt := 138) dX8_runOrders_134 (by decide) ?_
        refine Eg.pick [1, 2, 3, 4, 5, 6, 7, 9, 0] rfl ?_
        exact pX8_runOrders_138 hk16 hk28 hk94 _ _ _ _ _ _ _ _ _ _ _ h
def rX8_runOrders_94 (k16 : Mm → Nat → Nat → Nat → Int32 → Int32 → Int32 → Option (Int32 × Mm)) (k28 : Mm → Nat → Nat → Nat → Int32 → Int32 → Int32 → Int32 → Option (Int32 × Mm)) : Nat → Mm → Nat → Nat → Nat → Int32 → Int32 → Int32 → Int32 → Int32 → Int32 → Option (Int32 × Mm)
  | 0, _, _, _, _, _, _, _, _, _, _ => none
  | n + 1, u, a0, a1, a2, x3, x4, x5, x6, x8, x9 => bX8_runOrders_94 k16 k28 (rX8_runOrders_94 k16 k28 n) u a0 a1 a2 x3 x4 x5 x6 x8 x9
theorem prX8_runOrders_94 {r : Int32} {u' : Mm} {k16 : Mm → Nat → Nat → Nat → Int32 → Int32 → Int32 → Option (Int32 × Mm)} (hk16 : ∀ (u : Mm) (a0 : Nat) (a1 : Nat) (a2 : Nat) (x3 : Int32) (x4 : Int32) (x5 : Int32), k16 u a0 a1 a2 x3 x4 x5 = some (r, u') → Eg MX8_runOrders 6 0 0 (some (.int r), u') 16 [(0, .ref a0), (1, .ref a1), (2, .ref a2), (3, .int x3), (4, .int x4), (5, .int x5)] [] u) {k28 : Mm → Nat → Nat → Nat → Int32 → Int32 → Int32 → Int32 → Option (Int32 × Mm)} (hk28 : ∀ (u : Mm) (a0 : Nat) (a1 : Nat) (a2 : Nat) (x3 : Int32) (x4 : Int32) (x5 : Int32) (x6 : Int32), k28 u a0 a1 a2 x3 x4 x5 x6 = some (r, u') → Eg MX8_runOrders 6 0 0 (some (.int r), u') 28 [(0, .ref a0), (1, .ref a1), (2, .ref a2), (3, .int x3), (4, .int x4), (5, .int x5), (6, .int x6)] [] u) : ∀ (n : Nat) (u : Mm) (a0 : Nat) (a1 : Nat) (a2 : Nat) (x3 : Int32) (x4 : Int32) (x5 : Int32) (x6 : Int32) (x8 : Int32) (x9 : Int32), rX8_runOrders_94 k16 k28 n u a0 a1 a2 x3 x4 x5 x6 x8 x9 = some (r, u') → Eg MX8_runOrders 6 0 0 (some (.int r), u') 94 [(0, .ref a0), (1, .ref a1), (2, .ref a2), (3, .int x3), (4, .int x4), (5, .int x5), (6, .int x6), (8, .int x8), (9, .int x9)] [] u
  | 0, _, _, _, _, _, _, _, _, _, _, h => by cases h
  | n + 1, u, a0, a1, a2, x3, x4, x5, x6, x8, x9, h => pX8_runOrders_94 hk16 hk28 (prX8_runOrders_94 hk16 hk28 n) u a0 a1 a2 x3 x4 x5 x6 x8 x9 h
def bX8_runOrders_88 (k16 : Mm → Nat → Nat → Nat → Int32 → Int32 → Int32 → Option (Int32 × Mm)) (k28 : Mm → Nat → Nat → Nat → Int32 → Int32 → Int32 → Int32 → Option (Int32 × Mm)) (u : Mm) (a0 : Nat) (a1 : Nat) (a2 : Nat) (x3 : Int32) (x4 : Int32) (x5 : Int32) (x6 : Int32) : Option (Int32 × Mm) := rX8_runOrders_94 k16 k28 hwF u a0 a1 a2 x3 x4 x5 x6 1 0
set_option maxRecDepth 100000 in
set_option maxHeartbeats 4000000 in
theorem pX8_runOrders_88 {r : Int32} {u' : Mm} {k16 : Mm → Nat → Nat → Nat → Int32 → Int32 → Int32 → Option (Int32 × Mm)} (hk16 : ∀ (u : Mm) (a0 : Nat) (a1 : Nat) (a2 : Nat) (x3 : Int32) (x4 : Int32) (x5 : Int32), k16 u a0 a1 a2 x3 x4 x5 = some (r, u') → Eg MX8_runOrders 6 0 0 (some (.int r), u') 16 [(0, .ref a0), (1, .ref a1), (2, .ref a2), (3, .int x3), (4, .int x4), (5, .int x5)] [] u) {k28 : Mm → Nat → Nat → Nat → Int32 → Int32 → Int32 → Int32 → Option (Int32 × Mm)} (hk28 : ∀ (u : Mm) (a0 : Nat) (a1 : Nat) (a2 : Nat) (x3 : Int32) (x4 : Int32) (x5 : Int32) (x6 : Int32), k28 u a0 a1 a2 x3 x4 x5 x6 = some (r, u') → Eg MX8_runOrders 6 0 0 (some (.int r), u') 28 [(0, .ref a0), (1, .ref a1), (2, .ref a2), (3, .int x3), (4, .int x4), (5, .int x5), (6, .int x6)] [] u) (u : Mm) (a0 : Nat) (a1 : Nat) (a2 : Nat) (x3 : Int32) (x4 : Int32) (x5 : Int32) (x6 : Int32) (h : bX8_runOrders_88 k16 k28 u a0 a1 a2 x3 x4 x5 x6 = some (r, u')) : Eg MX8_runOrders 6 0 0 (some (.int r), u') 88 [(0, .ref a0), (1, .ref a1), (2, .ref a2), (3, .int x3), (4, .int x4), (5, .int x5), (6, .int x6)] [] u := by
  unfold bX8_runOrders_88 at h
  refine E_iconst (v := 1) dX8_runOrders_88 (by decide) ?_
  refine E_istore (l' := [(8, .int 1), (0, .ref a0), (1, .ref a1), (2, .ref a2), (3, .int x3), (4, .int x4), (5, .int x5), (6, .int x6)]) dX8_runOrders_89 (Nat.le_of_ble_eq_true rfl) rfl ?_
  refine E_iconst (v := 0) dX8_runOrders_91 (by decide) ?_
  refine E_istore (l' := [(9, .int 0), (8, .int 1), (0, .ref a0), (1, .ref a1), (2, .ref a2), (3, .int x3), (4, .int x4), (5, .int x5), (6, .int x6)]) dX8_runOrders_92 (Nat.le_of_ble_eq_true rfl) rfl ?_
  refine Eg.pick [2, 3, 4, 5, 6, 7, 8, 1, 0] rfl ?_
  exact prX8_runOrders_94 hk16 hk28 _ _ _ _ _ _ _ _ _ _ _ h
def bX8_runOrders_28 (k16 : Mm → Nat → Nat → Nat → Int32 → Int32 → Int32 → Option (Int32 × Mm)) (k28 : Mm → Nat → Nat → Nat → Int32 → Int32 → Int32 → Int32 → Option (Int32 × Mm)) (u : Mm) (a0 : Nat) (a1 : Nat) (a2 : Nat) (x3 : Int32) (x4 : Int32) (x5 : Int32) (x6 : Int32) : Option (Int32 × Mm) := oK u a1 6 7 (oNn (mR u a1 4) (fun e4 => oA u e4 10 x5 (oI (mI u e4 (Int32.toNatClampNeg x5)) (fun v5 => (if (v5 : Int32) ≤ x6 then k16 u a0 a1 a2 x3 x4 (x5 + 1) else oK u a0 8 19 (oNn (mR u a0 0) (fun e6 => oK u e6 0 16 (oNn (mR u e6 0) (fun e7 => oR u a2 5 (oB (fX5_setOrderWords u a2 e7 x3 x4) (fun _ u8 => oK u8 a1 6 7 (oNn (mR u8 a1 5) (fun e9 => oA u8 e9 10 ((x5 * 4) + 3) (oI (mI u8 e9 (Int32.toNatClampNeg ((x5 * 4) + 3))) (fun v10 => (if (v10 : Int32) = ((-1)) then bX8_runOrders_88 k16 k28 u8 a0 a1 a2 x3 x4 x5 x6 else oR u8 a2 5 (oB (fX5_valueOf u8 a2 a1 v10) (fun w28 u29 => (if (lg_cmp w28 1 : Int32) = 0 then bX8_runOrders_88 k16 k28 u29 a0 a1 a2 x3 x4 x5 x6 else bX8_runOrders_234 k16 k28 u29 a0 a1 a2 x3 x4 x5 x6)))))))))))))))))))
set_option maxRecDepth 100000 in
set_option maxHeartbeats 4000000 in
theorem pX8_runOrders_28 {r : Int32} {u' : Mm} {k16 : Mm → Nat → Nat → Nat → Int32 → Int32 → Int32 → Option (Int32 × Mm)} (hk16 : ∀ (u : Mm) (a0 : Nat) (a1 : Nat) (a2 : Nat) (x3 : Int32) (x4 : Int32) (x5 : Int32), k16 u a0 a1 a2 x3 x4 x5 = some (r, u') → Eg MX8_runOrders 6 0 0 (some (.int r), u') 16 [(0, .ref a0), (1, .ref a1), (2, .ref a2), (3, .int x3), (4, .int x4), (5, .int x5)] [] u) {k28 : Mm → Nat → Nat → Nat → Int32 → Int32 → Int32 → Int32 → Option (Int32 × Mm)} (hk28 : ∀ (u : Mm) (a0 : Nat) (a1 : Nat) (a2 : Nat) (x3 : Int32) (x4 : Int32) (x5 : Int32) (x6 : Int32), k28 u a0 a1 a2 x3 x4 x5 x6 = some (r, u') → Eg MX8_runOrders 6 0 0 (some (.int r), u') 28 [(0, .ref a0), (1, .ref a1), (2, .ref a2), (3, .int x3), (4, .int x4), (5, .int x5), (6, .int x6)] [] u) (u : Mm) (a0 : Nat) (a1 : Nat) (a2 : Nat) (x3 : Int32) (x4 : Int32) (x5 : Int32) (x6 : Int32) (h : bX8_runOrders_28 k16 k28 u a0 a1 a2 x3 x4 x5 x6 = some (r, u')) : Eg MX8_runOrders 6 0 0 (some (.int r), u') 28 [(0, .ref a0), (1, .ref a1), (2, .ref a2), (3, .int x3), (4, .int x4), (5, .int x5), (6, .int x6)] [] u := by
  unfold bX8_runOrders_28 at h
  refine E_iload dX8_runOrders_28 rfl ?_
  refine E_aload_n dX8_runOrders_30 rfl rfl ?_
  refine E_getA h dX8_runOrders_31 cf6 lk_X8_367 (by decide) (fun _ _ _ => rfl) (fun e4 h => ?_)
  refine E_iload dX8_runOrders_34 rfl ?_
  refine E_iald h dX8_runOrders_36 (fun h => ?_)
  refine E_oI h (fun v5 h => ?_)
  refine E_ic_ge (tgt := 240) h dX8_runOrders_37 (by decide) (fun h => ?_) (fun h => ?_)
  · refine E_iinc (j := 5) (v := x5 + 1) (l' := [(5, .int (x5 + 1)), (0, .ref a0), (1, .ref a1), (2, .ref a2), (3, .int x3), (4, .int x4), (6, .int x6)]) dX8_runOrders_240 rfl (addI (by decide)) (Nat.le_of_ble_eq_true rfl) rfl ?_
    refine E_goto (tgt := 16) dX8_runOrders_243 (by decide) ?_
    refine Eg.pick [1, 2, 3, 4, 5, 0] rfl ?_
    exact hk16 _ _ _ _ _ _ _ h
  · refine E_aload_n dX8_runOrders_40 rfl rfl ?_
    refine E_aload_n dX8_runOrders_41 rfl rfl ?_
    refine E_getA h dX8_runOrders_42 cf8 lk_X8_10 (by decide) (fun _ _ _ => rfl) (fun e6 h => ?_)
    refine E_getA h dX8_runOrders_45 cf0 lk_X8_100 (by decide) (fun _ _ _ => rfl) (fun e7 h => ?_)
    refine E_iload_n dX8_runOrders_48 rfl rfl ?_
    refine E_iload dX8_runOrders_49 rfl ?_
    refine F_Vv h (fun m e => tX5_setOrderWords e) dX8_runOrders_51 hm_X5_setOrderWords hv_X5_setOrderWords ln_X8_370 rfl rfl (Nat.le_of_ble_eq_true rfl) (Nat.le_of_ble_eq_true rfl) (kc' := 0) (ks' := 0) rfl rfl (fun u8 h => ?_)
    refine E_aload_n dX8_runOrders_54 rfl rfl ?_
    refine E_getA h dX8_runOrders_55 cf6 lk_X8_376 (by decide) (fun _ _ _ => rfl) (fun e9 h => ?_)
    refine E_iload dX8_runOrders_58 rfl ?_
    refine E_iconst (v := 4) dX8_runOrders_60 (by decide) ?_
    refine E_imul dX8_runOrders_61 ?_
    refine E_iconst (v := 3) dX8_runOrders_62 (by decide) ?_
    refine E_iadd dX8_runOrders_63 ?_
    refine E_iald h dX8_runOrders_64 (fun h => ?_)
    refine E_oI h (fun v10 h => ?_)
    refine E_istore (l' := [(7, .int v10), (0, .ref a0), (1, .ref a1), (2, .ref a2), (3, .int x3), (4, .int x4), (5, .int x5), (6, .int x6)]) dX8_runOrders_65 (Nat.le_of_ble_eq_true rfl) rfl ?_
    refine E_iload dX8_runOrders_67 rfl ?_
    refine E_iconst (v := (-1)) dX8_runOrders_69 (by decide) ?_
    refine E_ic_eq (tgt := 88) h dX8_runOrders_70 (by decide) (fun h => ?_) (fun h => ?_)
    · refine Eg.pick [1, 2, 3, 4, 5, 6, 7] rfl ?_
      exact pX8_runOrders_88 hk16 hk28 _ _ _ _ _ _ _ _ h
    · refine E_aload_n dX8_runOrders_73 rfl rfl ?_
      refine E_aload_n dX8_runOrders_74 rfl rfl ?_
      refine E_iload dX8_runOrders_75 rfl ?_
      refine F_Vl h (fun a m e => tX5_valueOf e) dX8_runOrders_77 hm_X5_valueOf hv_X5_valueOf ln_X8_379 rfl rfl (Nat.le_of_ble_eq_true rfl) (Nat.le_of_ble_eq_true rfl) (kc' := 0) (ks' := 0) rfl rfl (fun w28 u29 h => ?_)
      refine E_lconst (v := 1) dX8_runOrders_80 (by decide) ?_
      refine E_lcmp dX8_runOrders_81 ?_
      refine E_if_eq (tgt := 88) h dX8_runOrders_82 (by decide) (fun h => ?_) (fun h => ?_)
      · refine Eg.pick [1, 2, 3, 4, 5, 6, 7] rfl ?_
        exact pX8_runOrders_88 hk16 hk28 _ _ _ _ _ _ _ _ h
      · refine E_goto (tgt := 234) dX8_runOrders_85 (by decide) ?_
        refine Eg.pick [1, 2, 3, 4, 5, 6, 7] rfl ?_
        exact pX8_runOrders_234 hk16 hk28 _ _ _ _ _ _ _ _ h
def rX8_runOrders_28 (k16 : Mm → Nat → Nat → Nat → Int32 → Int32 → Int32 → Option (Int32 × Mm)) : Nat → Mm → Nat → Nat → Nat → Int32 → Int32 → Int32 → Int32 → Option (Int32 × Mm)
  | 0, _, _, _, _, _, _, _, _ => none
  | n + 1, u, a0, a1, a2, x3, x4, x5, x6 => bX8_runOrders_28 k16 (rX8_runOrders_28 k16 n) u a0 a1 a2 x3 x4 x5 x6
theorem prX8_runOrders_28 {r : Int32} {u' : Mm} {k16 : Mm → Nat → Nat → Nat → Int32 → Int32 → Int32 → Option (Int32 × Mm)} (hk16 : ∀ (u : Mm) (a0 : Nat) (a1 : Nat) (a2 : Nat) (x3 : Int32) (x4 : Int32) (x5 : Int32), k16 u a0 a1 a2 x3 x4 x5 = some (r, u') → Eg MX8_runOrders 6 0 0 (some (.int r), u') 16 [(0, .ref a0), (1, .ref a1), (2, .ref a2), (3, .int x3), (4, .int x4), (5, .int x5)] [] u) : ∀ (n : Nat) (u : Mm) (a0 : Nat) (a1 : Nat) (a2 : Nat) (x3 : Int32) (x4 : Int32) (x5 : Int32) (x6 : Int32), rX8_runOrders_28 k16 n u a0 a1 a2 x3 x4 x5 x6 = some (r, u') → Eg MX8_runOrders 6 0 0 (some (.int r), u') 28 [(0, .ref a0), (1, .ref a1), (2, .ref a2), (3, .int x3), (4, .int x4), (5, .int x5), (6, .int x6)] [] u
  | 0, _, _, _, _, _, _, _, _, h => by cases h
  | n + 1, u, a0, a1, a2, x3, x4, x5, x6, h => pX8_runOrders_28 hk16 (prX8_runOrders_28 hk16 n) u a0 a1 a2 x3 x4 x5 x6 h
def bX8_runOrders_16 (k16 : Mm → Nat → Nat → Nat → Int32 → Int32 → Int32 → Option (Int32 × Mm)) (u : Mm) (a0 : Nat) (a1 : Nat) (a2 : Nat) (x3 : Int32) (x4 : Int32) (x5 : Int32) : Option (Int32 × Mm) := oK u a1 6 7 (oI (mI u a1 6) (fun v3 => (if (v3 : Int32) ≤ x5 then some (x3, u) else rX8_runOrders_28 k16 hwF u a0 a1 a2 x3 x4 x5 0)))
set_option maxRecDepth 100000 in
set_option maxHeartbeats 4000000 in
theorem pX8_runOrders_16 {r : Int32} {u' : Mm} {k16 : Mm → Nat → Nat → Nat → Int32 → Int32 → Int32 → Option (Int32 × Mm)} (hk16 : ∀ (u : Mm) (a0 : Nat) (a1 : Nat) (a2 : Nat) (x3 : Int32) (x4 : Int32) (x5 : Int32), k16 u a0 a1 a2 x3 x4 x5 = some (r, u') → Eg MX8_runOrders 6 0 0 (some (.int r), u') 16 [(0, .ref a0), (1, .ref a1), (2, .ref a2), (3, .int x3), (4, .int x4), (5, .int x5)] [] u) (u : Mm) (a0 : Nat) (a1 : Nat) (a2 : Nat) (x3 : Int32) (x4 : Int32) (x5 : Int32) (h : bX8_runOrders_16 k16 u a0 a1 a2 x3 x4 x5 = some (r, u')) : Eg MX8_runOrders 6 0 0 (some (.int r), u') 16 [(0, .ref a0), (1, .ref a1), (2, .ref a2), (3, .int x3), (4, .int x4), (5, .int x5)] [] u := by
  unfold bX8_runOrders_16 at h
  refine E_iload dX8_runOrders_16 rfl ?_
  refine E_aload_n dX8_runOrders_18 rfl rfl ?_
  refine E_getI h dX8_runOrders_19 cf6 lk_X8_364 (by decide) (fun _ _ _ => rfl) (fun h => ?_)
  refine E_oI h (fun v3 h => ?_)
  refine E_ic_ge (tgt := 246) h dX8_runOrders_22 (by decide) (fun h => ?_) (fun h => ?_)
  · refine E_iload_n dX8_runOrders_246 rfl rfl ?_
    exact E_iret h dX8_runOrders_247 rfl
  · refine E_iconst (v := 0) dX8_runOrders_25 (by decide) ?_
    refine E_istore (l' := [(6, .int 0), (0, .ref a0), (1, .ref a1), (2, .ref a2), (3, .int x3), (4, .int x4), (5, .int x5)]) dX8_runOrders_26 (Nat.le_of_ble_eq_true rfl) rfl ?_
    refine Eg.pick [1, 2, 3, 4, 5, 6, 0] rfl ?_
    exact prX8_runOrders_28 hk16 _ _ _ _ _ _ _ _ _ h
def rX8_runOrders_16 : Nat → Mm → Nat → Nat → Nat → Int32 → Int32 → Int32 → Option (Int32 × Mm)
  | 0, _, _, _, _, _, _, _ => none
  | n + 1, u, a0, a1, a2, x3, x4, x5 => bX8_runOrders_16 (rX8_runOrders_16 n) u a0 a1 a2 x3 x4 x5
theorem prX8_runOrders_16 {r : Int32} {u' : Mm} : ∀ (n : Nat) (u : Mm) (a0 : Nat) (a1 : Nat) (a2 : Nat) (x3 : Int32) (x4 : Int32) (x5 : Int32), rX8_runOrders_16 n u a0 a1 a2 x3 x4 x5 = some (r, u') → Eg MX8_runOrders 6 0 0 (some (.int r), u') 16 [(0, .ref a0), (1, .ref a1), (2, .ref a2), (3, .int x3), (4, .int x4), (5, .int x5)] [] u
  | 0, _, _, _, _, _, _, _, h => by cases h
  | n + 1, u, a0, a1, a2, x3, x4, x5, h => pX8_runOrders_16 (prX8_runOrders_16 n) u a0 a1 a2 x3 x4 x5 h
def fX8_runOrders (u : Mm) (a0 : Nat) (a1 : Nat) : Option (Int32 × Mm) := oK u a0 8 19 (oNn (mR u a0 1) (fun e1 => oK u e1 7 2 (oNn (mR u e1 1) (fun e2 => rX8_runOrders_16 hwF u a0 a1 e2 0 ((-1)) 0))))
set_option maxRecDepth 100000 in
set_option maxHeartbeats 4000000 in
theorem tX8_runOrders {u : Mm} {a0 : Nat} {a1 : Nat} {r : Int32} {u' : Mm} (h : fX8_runOrders u a0 a1 = some (r, u')) : Ev 6 MX8_runOrders 0 0 [.ref a0, .ref a1] u (some (.int r), u') := by
  refine Ev.of (by decide +kernel) (Nat.le_of_ble_eq_true rfl) (show Eg MX8_runOrders 6 0 0 (some (.int r), u') 0 [(0, .ref a0), (1, .ref a1)] [] u from ?_)
  unfold fX8_runOrders at h
  refine E_aload_n dX8_runOrders_0 rfl rfl ?_
  refine E_getA h dX8_runOrders_1 cf8 lk_X8_21 (by decide) (fun _ _ _ => rfl) (fun e1 h => ?_)
  refine E_getA h dX8_runOrders_4 cf7 lk_X8_360 (by decide) (fun _ _ _ => rfl) (fun e2 h => ?_)
  refine E_astore_n (l' := [(2, .ref e2), (0, .ref a0), (1, .ref a1)]) dX8_runOrders_7 rfl (Nat.le_of_ble_eq_true rfl) rfl ?_
  refine E_iconst (v := 0) dX8_runOrders_8 (by decide) ?_
  refine E_istore_n (l' := [(3, .int 0), (2, .ref e2), (0, .ref a0), (1, .ref a1)]) dX8_runOrders_9 rfl (Nat.le_of_ble_eq_true rfl) rfl ?_
  refine E_iconst (v := (-1)) dX8_runOrders_10 (by decide) ?_
  refine E_istore (l' := [(4, .int ((-1))), (3, .int 0), (2, .ref e2), (0, .ref a0), (1, .ref a1)]) dX8_runOrders_11 (Nat.le_of_ble_eq_true rfl) rfl ?_
  refine E_iconst (v := 0) dX8_runOrders_13 (by decide) ?_
  refine E_istore (l' := [(5, .int 0), (4, .int ((-1))), (3, .int 0), (2, .ref e2), (0, .ref a0), (1, .ref a1)]) dX8_runOrders_14 (Nat.le_of_ble_eq_true rfl) rfl ?_
  refine Eg.pick [4, 5, 3, 2, 1, 0] rfl ?_
  exact prX8_runOrders_16 _ _ _ _ _ _ _ _ h
