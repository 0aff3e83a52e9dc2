/-! ===== methods as functions, with their contracts (printed by program) ===== -/
def bX9_readSum_22 (u : Mm) (a0 : Nat) (x1 : Int32) : Option (Unit × Mm) := oK u a0 9 54 (oNn (mR u a0 46) (fun e5 => oK u a0 9 54 (oI (mI u a0 23) (fun v6 => oA u e5 10 (x1 + 1) (oU (wI u e5 (upd (mI u e5) (Int32.toNatClampNeg (x1 + 1)) v6)) (fun u7 => some ((), u7)))))))
set_option maxRecDepth 100000 in
set_option maxHeartbeats 4000000 in
theorem pX9_readSum_22 {r : Unit} {u' : Mm} (u : Mm) (a0 : Nat) (x1 : Int32) (h : bX9_readSum_22 u a0 x1 = some (r, u')) : Eg MX9_readSum 7 0 0 (none, u') 22 [(0, .ref a0), (1, .int x1)] [] u := by
  unfold bX9_readSum_22 at h
  refine E_aload_n dX9_readSum_22 rfl rfl ?_
  refine E_getA h dX9_readSum_23 cf9 lk_X9_125 (by decide) (fun _ _ _ => rfl) (fun e5 h => ?_)
  refine E_iload_n dX9_readSum_26 rfl rfl ?_
  refine E_iconst (v := 1) dX9_readSum_27 (by decide) ?_
  refine E_iadd dX9_readSum_28 ?_
  refine E_aload_n dX9_readSum_29 rfl rfl ?_
  refine E_getI h dX9_readSum_30 cf9 lk_X9_258 (by decide) (fun _ _ _ => rfl) (fun h => ?_)
  refine E_oI h (fun v6 h => ?_)
  refine E_iast h dX9_readSum_33 (fun h => ?_)
  refine E_oU h (fun u7 h => ?_)
  exact E_vret h dX9_readSum_34 rfl
def fX9_readSum (u : Mm) (a0 : Nat) (x1 : Int32) : Option (Unit × Mm) := oK u a0 9 54 (oNn (mR u a0 46) (fun e1 => oK u a0 9 54 (oI (mI u a0 23) (fun v2 => oA u e1 10 x1 (oU (wI u e1 (upd (mI u e1) (Int32.toNatClampNeg x1) v2)) (fun u3 => oK u3 a0 9 54 (oI (mI u3 a0 19) (fun v4 => (if (v4 : Int32) = 0 then oR u3 a0 9 (oB (fX9_readExpression u3 a0 0) (fun _ u8 => bX9_readSum_22 u8 a0 x1)) else bX9_readSum_22 u3 a0 x1)))))))))
set_option maxRecDepth 100000 in
set_option maxHeartbeats 4000000 in
theorem tX9_readSum {u : Mm} {a0 : Nat} {x1 : Int32} {r : Unit} {u' : Mm} (h : fX9_readSum u a0 x1 = some (r, u')) : Ev 7 MX9_readSum 0 0 [.ref a0, .int x1] u (none, u') := by
  refine Ev.of (by decide +kernel) (Nat.le_of_ble_eq_true rfl) (show Eg MX9_readSum 7 0 0 (none, u') 0 [(0, .ref a0), (1, .int x1)] [] u from ?_)
  unfold fX9_readSum at h
  refine E_aload_n dX9_readSum_0 rfl rfl ?_
  refine E_getA h dX9_readSum_1 cf9 lk_X9_125 (by decide) (fun _ _ _ => rfl) (fun e1 h => ?_)
  refine E_iload_n dX9_readSum_4 rfl rfl ?_
  refine E_aload_n dX9_readSum_5 rfl rfl ?_
  refine E_getI h dX9_readSum_6 cf9 lk_X9_258 (by decide) (fun _ _ _ => rfl) (fun h => ?_)
  refine E_oI h (fun v2 h => ?_)
  refine E_iast h dX9_readSum_9 (fun h => ?_)
  refine E_oU h (fun u3 h => ?_)
  refine E_aload_n dX9_readSum_10 rfl rfl ?_
  refine E_getI h dX9_readSum_11 cf9 lk_X9_223 (by decide) (fun _ _ _ => rfl) (fun h => ?_)
  refine E_oI h (fun v4 h => ?_)
  refine E_if_ne (tgt := 22) h dX9_readSum_14 (by decide) (fun h => ?_) (fun h => ?_)
  · refine Eg.pick [0, 1] rfl ?_
    exact pX9_readSum_22 _ _ _ h
  · refine E_aload_n dX9_readSum_17 rfl rfl ?_
    refine E_iconst (v := 0) dX9_readSum_18 (by decide) ?_
    refine F_Vv h (fun m e => tX9_readExpression e) dX9_readSum_19 hm_X9_readExpression hv_X9_readExpression ln_X9_351 rfl rfl (Nat.le_of_ble_eq_true rfl) (Nat.le_of_ble_eq_true rfl) (kc' := 0) (ks' := 0) rfl rfl (fun u8 h => ?_)
    refine Eg.pick [0, 1] rfl ?_
    exact pX9_readSum_22 _ _ _ h
def bX9_behind_16 (u : Mm) (a0 : Nat) (x3 : Int32) : Option (Unit × Mm) := oR u a0 9 (oB (fX9_readSum u a0 x3) (fun _ u2 => some ((), u2)))
set_option maxRecDepth 100000 in
set_option maxHeartbeats 4000000 in
theorem pX9_behind_16 {r : Unit} {u' : Mm} (u : Mm) (a0 : Nat) (x3 : Int32) (h : bX9_behind_16 u a0 x3 = some (r, u')) : Eg MX9_behind 8 0 0 (none, u') 16 [(0, .ref a0), (3, .int x3)] [] u := by
  unfold bX9_behind_16 at h
  refine E_aload_n dX9_behind_16 rfl rfl ?_
  refine E_iload_n dX9_behind_17 rfl rfl ?_
  refine F_Vv h (fun m e => tX9_readSum e) dX9_behind_18 hm_X9_readSum hv_X9_readSum ln_X9_491 rfl rfl (Nat.le_of_ble_eq_true rfl) (Nat.le_of_ble_eq_true rfl) (kc' := 0) (ks' := 0) rfl rfl (fun u2 h => ?_)
  exact E_vret h dX9_behind_21 rfl
def fX9_behind (u : Mm) (a0 : Nat) (y1 : Int64) (x3 : Int32) : Option (Unit × Mm) := oK u a0 9 54 (oI (mI u a0 19) (fun v1 => (if (v1 : Int32) = 0 then oR u a0 9 (oB (fX9_isWord u a0 y1) (fun v3 u4 => oR u4 a0 9 (oB (fX9_must u4 a0 v3) (fun _ u5 => bX9_behind_16 u5 a0 x3)))) else bX9_behind_16 u a0 x3)))
set_option maxRecDepth 100000 in
set_option maxHeartbeats 4000000 in
theorem tX9_behind {u : Mm} {a0 : Nat} {y1 : Int64} {x3 : Int32} {r : Unit} {u' : Mm} (h : fX9_behind u a0 y1 x3 = some (r, u')) : Ev 8 MX9_behind 0 0 [.ref a0, .long y1, .int x3] u (none, u') := by
  refine Ev.of (by decide +kernel) (Nat.le_of_ble_eq_true rfl) (show Eg MX9_behind 8 0 0 (none, u') 0 [(0, .ref a0), (1, .long y1), (3, .int x3)] [] u from ?_)
  unfold fX9_behind at h
  refine E_aload_n dX9_behind_0 rfl rfl ?_
  refine E_getI h dX9_behind_1 cf9 lk_X9_223 (by decide) (fun _ _ _ => rfl) (fun h => ?_)
  refine E_oI h (fun v1 h => ?_)
  refine E_if_ne (tgt := 16) h dX9_behind_4 (by decide) (fun h => ?_) (fun h => ?_)
  · refine Eg.pick [0, 2] rfl ?_
    exact pX9_behind_16 _ _ _ h
  · refine E_aload_n dX9_behind_7 rfl rfl ?_
    refine E_aload_n dX9_behind_8 rfl rfl ?_
    refine E_lload_n dX9_behind_9 rfl rfl ?_
    refine F_Vi h (fun a m e => tX9_isWord e) dX9_behind_10 hm_X9_isWord hv_X9_isWord ln_X9_277 rfl rfl (Nat.le_of_ble_eq_true rfl) (Nat.le_of_ble_eq_true rfl) (kc' := 0) (ks' := 0) rfl rfl (fun v3 u4 h => ?_)
    refine F_Vv h (fun m e => tX9_must e) dX9_behind_13 hm_X9_must hv_X9_must ln_X9_254 rfl rfl (Nat.le_of_ble_eq_true rfl) (Nat.le_of_ble_eq_true rfl) (kc' := 0) (ks' := 0) rfl rfl (fun u5 h => ?_)
    refine Eg.pick [0, 2] rfl ?_
    exact pX9_behind_16 _ _ _ h
def bX9_readOrder_248 (u : Mm) (a0 : Nat) (x2 : Int32) : Option (Unit × Mm) := oK u a0 9 54 (oNn (mR u a0 46) (fun e16 => oK u a0 9 54 (oI (mI u a0 23) (fun v17 => oA u e16 10 ((x2 + 7) + 1) (oU (wI u e16 (upd (mI u e16) (Int32.toNatClampNeg ((x2 + 7) + 1)) v17)) (fun u18 => some ((), u18)))))))
set_option maxRecDepth 100000 in
set_option maxHeartbeats 4000000 in
theorem pX9_readOrder_248 {r : Unit} {u' : Mm} (u : Mm) (a0 : Nat) (x2 : Int32) (h : bX9_readOrder_248 u a0 x2 = some (r, u')) : Eg MX9_readOrder 9 0 0 (none, u') 248 [(0, .ref a0), (2, .int x2)] [] u := by
  unfold bX9_readOrder_248 at h
  refine E_aload_n dX9_readOrder_248 rfl rfl ?_
  refine E_getA h dX9_readOrder_249 cf9 lk_X9_125 (by decide) (fun _ _ _ => rfl) (fun e16 h => ?_)
  refine E_iload_n dX9_readOrder_252 rfl rfl ?_
  refine E_bipush (v := 7) dX9_readOrder_253 (by decide) ?_
  refine E_iadd dX9_readOrder_255 ?_
  refine E_iconst (v := 1) dX9_readOrder_256 (by decide) ?_
  refine E_iadd dX9_readOrder_257 ?_
  refine E_aload_n dX9_readOrder_258 rfl rfl ?_
  refine E_getI h dX9_readOrder_259 cf9 lk_X9_258 (by decide) (fun _ _ _ => rfl) (fun h => ?_)
  refine E_oI h (fun v17 h => ?_)
  refine E_iast h dX9_readOrder_262 (fun h => ?_)
  refine E_oU h (fun u18 h => ?_)
  exact E_vret h dX9_readOrder_263 rfl
def bX9_readOrder_209 (u : Mm) (a0 : Nat) (x2 : Int32) : Option (Unit × Mm) := oK u a0 9 54 (oNn (mR u a0 46) (fun e12 => oK u a0 9 54 (oI (mI u a0 23) (fun v13 => oA u e12 10 (x2 + 7) (oU (wI u e12 (upd (mI u e12) (Int32.toNatClampNeg (x2 + 7)) v13)) (fun u14 => oK u14 a0 9 54 (oI (mI u14 a0 19) (fun v15 => (if (v15 : Int32) = 0 then oR u14 a0 9 (oB (fX9_isWord u14 a0 294) (fun v19 u20 => (if (v19 : Int32) = 0 then bX9_readOrder_248 u20 a0 x2 else oR u20 a0 9 (oB (fX9_next u20 a0) (fun _ u21 => oR u21 a0 9 (oB (fX9_readExpression u21 a0 1) (fun _ u22 => bX9_readOrder_248 u22 a0 x2))))))) else bX9_readOrder_248 u14 a0 x2)))))))))
set_option maxRecDepth 100000 in
set_option maxHeartbeats 4000000 in
theorem pX9_readOrder_209 {r : Unit} {u' : Mm} (u : Mm) (a0 : Nat) (x2 : Int32) (h : bX9_readOrder_209 u a0 x2 = some (r, u')) : Eg MX9_readOrder 9 0 0 (none, u') 209 [(0, .ref a0), (2, .int x2)] [] u := by
  unfold bX9_readOrder_209 at h
  refine E_aload_n dX9_readOrder_209 rfl rfl ?_
  refine E_getA h dX9_readOrder_210 cf9 lk_X9_125 (by decide) (fun _ _ _ => rfl) (fun e12 h => ?_)
  refine E_iload_n dX9_readOrder_213 rfl rfl ?_
  refine E_bipush (v := 7) dX9_readOrder_214 (by decide) ?_
  refine E_iadd dX9_readOrder_216 ?_
  refine E_aload_n dX9_readOrder_217 rfl rfl ?_
  refine E_getI h dX9_readOrder_218 cf9 lk_X9_258 (by decide) (fun _ _ _ => rfl) (fun h => ?_)
  refine E_oI h (fun v13 h => ?_)
  refine E_iast h dX9_readOrder_221 (fun h => ?_)
  refine E_oU h (fun u14 h => ?_)
  refine E_aload_n dX9_readOrder_222 rfl rfl ?_
  refine E_getI h dX9_readOrder_223 cf9 lk_X9_223 (by decide) (fun _ _ _ => rfl) (fun h => ?_)
  refine E_oI h (fun v15 h => ?_)
  refine E_if_ne (tgt := 248) h dX9_readOrder_226 (by decide) (fun h => ?_) (fun h => ?_)
  · refine Eg.pick [0, 1] rfl ?_
    exact pX9_readOrder_248 _ _ _ h
  · refine E_aload_n dX9_readOrder_229 rfl rfl ?_
    refine E_ldc2 dX9_readOrder_230 rfl cn_X9_354 ?_
    refine F_Vi h (fun a m e => tX9_isWord e) dX9_readOrder_233 hm_X9_isWord hv_X9_isWord ln_X9_277 rfl rfl (Nat.le_of_ble_eq_true rfl) (Nat.le_of_ble_eq_true rfl) (kc' := 0) (ks' := 0) rfl rfl (fun v19 u20 h => ?_)
    refine E_if_eq (tgt := 248) h dX9_readOrder_236 (by decide) (fun h => ?_) (fun h => ?_)
    · refine Eg.pick [0, 1] rfl ?_
      exact pX9_readOrder_248 _ _ _ h
    · refine E_aload_n dX9_readOrder_239 rfl rfl ?_
      refine F_Vv h (fun m e => tX9_next e) dX9_readOrder_240 hm_X9_next hv_X9_next ln_X9_227 rfl rfl (Nat.le_of_ble_eq_true rfl) (Nat.le_of_ble_eq_true rfl) (kc' := 0) (ks' := 0) rfl rfl (fun u21 h => ?_)
      refine E_aload_n dX9_readOrder_243 rfl rfl ?_
      refine E_iconst (v := 1) dX9_readOrder_244 (by decide) ?_
      refine F_Vv h (fun m e => tX9_readExpression e) dX9_readOrder_245 hm_X9_readExpression hv_X9_readExpression ln_X9_351 rfl rfl (Nat.le_of_ble_eq_true rfl) (Nat.le_of_ble_eq_true rfl) (kc' := 0) (ks' := 0) rfl rfl (fun u22 h => ?_)
      refine Eg.pick [0, 1] rfl ?_
      exact pX9_readOrder_248 _ _ _ h
def bX9_readOrder_161 (u : Mm) (a0 : Nat) (x2 : Int32) : Option (Unit × Mm) := oK u a0 9 54 (oNn (mR u a0 46) (fun e9 => oA u e9 10 (x2 + 9) (oU (wI u e9 (upd (mI u e9) (Int32.toNatClampNeg (x2 + 9)) 1)) (fun u10 => oK u10 a0 9 54 (oI (mI u10 a0 19) (fun v11 => (if (v11 : Int32) = 0 then oR u10 a0 9 (oB (fX9_isWord u10 a0 21279923) (fun v23 u24 => (if (v23 : Int32) = 0 then bX9_readOrder_209 u24 a0 x2 else oR u24 a0 9 (oB (fX9_next u24 a0) (fun _ u25 => oK u25 a0 9 54 (oNn (mR u25 a0 46) (fun e26 => oR u25 a0 9 (oB (fX9_number u25 a0 1 20) (fun v27 u28 => oA u28 e26 10 (x2 + 9) (oU (wI u28 e26 (upd (mI u28 e26) (Int32.toNatClampNeg (x2 + 9)) v27)) (fun u29 => bX9_readOrder_209 u29 a0 x2))))))))))) else bX9_readOrder_209 u10 a0 x2)))))))
set_option maxRecDepth 100000 in
set_option maxHeartbeats 4000000 in
theorem pX9_readOrder_161 {r : Unit} {u' : Mm} (u : Mm) (a0 : Nat) (x2 : Int32) (h : bX9_readOrder_161 u a0 x2 = some (r, u')) : Eg MX9_readOrder 9 0 0 (none, u') 161 [(0, .ref a0), (2, .int x2)] [] u := by
  unfold bX9_readOrder_161 at h
  refine E_aload_n dX9_readOrder_161 rfl rfl ?_
  refine E_getA h dX9_readOrder_162 cf9 lk_X9_125 (by decide) (fun _ _ _ => rfl) (fun e9 h => ?_)
  refine E_iload_n dX9_readOrder_165 rfl rfl ?_
  refine E_bipush (v := 9) dX9_readOrder_166 (by decide) ?_
  refine E_iadd dX9_readOrder_168 ?_
  refine E_iconst (v := 1) dX9_readOrder_169 (by decide) ?_
  refine E_iast h dX9_readOrder_170 (fun h => ?_)
  refine E_oU h (fun u10 h => ?_)
  refine E_aload_n dX9_readOrder_171 rfl rfl ?_
  refine E_getI h dX9_readOrder_172 cf9 lk_X9_223 (by decide) (fun _ _ _ => rfl) (fun h => ?_)
  refine E_oI h (fun v11 h => ?_)
  refine E_if_ne (tgt := 209) h dX9_readOrder_175 (by decide) (fun h => ?_) (fun h => ?_)
  · refine Eg.pick [0, 1] rfl ?_
    exact pX9_readOrder_209 _ _ _ h
  · refine E_aload_n dX9_readOrder_178 rfl rfl ?_
    refine E_ldc2 dX9_readOrder_179 rfl cn_X9_504 ?_
    refine F_Vi h (fun a m e => tX9_isWord e) dX9_readOrder_182 hm_X9_isWord hv_X9_isWord ln_X9_277 rfl rfl (Nat.le_of_ble_eq_true rfl) (Nat.le_of_ble_eq_true rfl) (kc' := 0) (ks' := 0) rfl rfl (fun v23 u24 h => ?_)
    refine E_if_eq (tgt := 209) h dX9_readOrder_185 (by decide) (fun h => ?_) (fun h => ?_)
    · refine Eg.pick [0, 1] rfl ?_
      exact pX9_readOrder_209 _ _ _ h
    · refine E_aload_n dX9_readOrder_188 rfl rfl ?_
      refine F_Vv h (fun m e => tX9_next e) dX9_readOrder_189 hm_X9_next hv_X9_next ln_X9_227 rfl rfl (Nat.le_of_ble_eq_true rfl) (Nat.le_of_ble_eq_true rfl) (kc' := 0) (ks' := 0) rfl rfl (fun u25 h => ?_)
      refine E_aload_n dX9_readOrder_192 rfl rfl ?_
      refine E_getA h dX9_readOrder_193 cf9 lk_X9_125 (by decide) (fun _ _ _ => rfl) (fun e26 h => ?_)
      refine E_iload_n dX9_readOrder_196 rfl rfl ?_
      refine E_bipush (v := 9) dX9_readOrder_197 (by decide) ?_
      refine E_iadd dX9_readOrder_199 ?_
      refine E_aload_n dX9_readOrder_200 rfl rfl ?_
      refine E_lconst (v := 1) dX9_readOrder_201 (by decide) ?_
      refine E_ldc2 dX9_readOrder_202 rfl cn_X9_194 ?_
      refine F_Vi h (fun a m e => tX9_number e) dX9_readOrder_205 hm_X9_number hv_X9_number ln_X9_312 rfl rfl (Nat.le_of_ble_eq_true rfl) (Nat.le_of_ble_eq_true rfl) (kc' := 0) (ks' := 0) rfl rfl (fun v27 u28 h => ?_)
      refine E_iast h dX9_readOrder_208 (fun h => ?_)
      refine E_oU h (fun u29 h => ?_)
      refine Eg.pick [0, 1] rfl ?_
      exact pX9_readOrder_209 _ _ _ h
def bX9_readOrder_146 (u : Mm) (a0 : Nat) (x1 : Int32) (x2 : Int32) : Option (Unit × Mm) := (if (x1 : Int32) = 1 then oR u a0 9 (oB (fX9_behind u a0 89 (x2 + 5)) (fun _ u30 => bX9_readOrder_161 u30 a0 x2)) else bX9_readOrder_161 u a0 x2)
set_option maxRecDepth 100000 in
set_option maxHeartbeats 4000000 in
theorem pX9_readOrder_146 {r : Unit} {u' : Mm} (u : Mm) (a0 : Nat) (x1 : Int32) (x2 : Int32) (h : bX9_readOrder_146 u a0 x1 x2 = some (r, u')) : Eg MX9_readOrder 9 0 0 (none, u') 146 [(0, .ref a0), (1, .int x1), (2, .int x2)] [] u := by
  unfold bX9_readOrder_146 at h
  refine E_iload_n dX9_readOrder_146 rfl rfl ?_
  refine E_iconst (v := 1) dX9_readOrder_147 (by decide) ?_
  refine E_ic_ne (tgt := 161) h dX9_readOrder_148 (by decide) (fun h => ?_) (fun h => ?_)
  · refine Eg.pick [0, 2] rfl ?_
    exact pX9_readOrder_161 _ _ _ h
  · refine E_aload_n dX9_readOrder_151 rfl rfl ?_
    refine E_ldc2 dX9_readOrder_152 rfl cn_X9_502 ?_
    refine E_iload_n dX9_readOrder_155 rfl rfl ?_
    refine E_iconst (v := 5) dX9_readOrder_156 (by decide) ?_
    refine E_iadd dX9_readOrder_157 ?_
    refine F_Vv h (fun m e => tX9_behind e) dX9_readOrder_158 hm_X9_behind hv_X9_behind ln_X9_498 rfl rfl (Nat.le_of_ble_eq_true rfl) (Nat.le_of_ble_eq_true rfl) (kc' := 0) (ks' := 0) rfl rfl (fun u30 h => ?_)
    refine Eg.pick [0, 2] rfl ?_
    exact pX9_readOrder_161 _ _ _ h
def bX9_readOrder_140 (u : Mm) (a0 : Nat) (x1 : Int32) (x2 : Int32) (s0 : Int64) (s1 : Nat) : Option (Unit × Mm) := oR u s1 9 (oB (fX9_behind u s1 s0 (x2 + 3)) (fun _ u32 => bX9_readOrder_146 u32 a0 x1 x2))
set_option maxRecDepth 100000 in
set_option maxHeartbeats 4000000 in
theorem pX9_readOrder_140 {r : Unit} {u' : Mm} (u : Mm) (a0 : Nat) (x1 : Int32) (x2 : Int32) (s0 : Int64) (s1 : Nat) (h : bX9_readOrder_140 u a0 x1 x2 s0 s1 = some (r, u')) : Eg MX9_readOrder 9 0 0 (none, u') 140 [(0, .ref a0), (1, .int x1), (2, .int x2)] [.long s0, .ref s1] u := by
  unfold bX9_readOrder_140 at h
  refine E_iload_n dX9_readOrder_140 rfl rfl ?_
  refine E_iconst (v := 3) dX9_readOrder_141 (by decide) ?_
  refine E_iadd dX9_readOrder_142 ?_
  refine F_Vv h (fun m e => tX9_behind e) dX9_readOrder_143 hm_X9_behind hv_X9_behind ln_X9_498 rfl rfl (Nat.le_of_ble_eq_true rfl) (Nat.le_of_ble_eq_true rfl) (kc' := 0) (ks' := 0) rfl rfl (fun u32 h => ?_)
  refine Eg.pick [0, 1, 2] rfl ?_
  exact pX9_readOrder_146 _ _ _ _ h
def bX9_readOrder_85 (k85 : Mm → Nat → Int32 → Int32 → Int32 → Option (Unit × Mm)) (u : Mm) (a0 : Nat) (x1 : Int32) (x2 : Int32) (x3 : Int32) : Option (Unit × Mm) := (if (10 : Int32) ≤ x3 then oK u a0 9 54 (oNn (mR u a0 46) (fun e7 => oA u e7 10 x2 (oU (wI u e7 (upd (mI u e7) (Int32.toNatClampNeg x2) x1)) (fun u8 => (if (x1 : Int32) = 3 then bX9_readOrder_146 u8 a0 x1 x2 else oR u8 a0 9 (oB (fX9_readSum u8 a0 (x2 + 1)) (fun _ u31 => (if (x1 : Int32) = 2 then bX9_readOrder_140 u31 a0 x1 x2 655 a0 else bX9_readOrder_140 u31 a0 x1 x2 52 a0)))))))) else oK u a0 9 54 (oNn (mR u a0 46) (fun e33 => oA u e33 10 (x2 + x3) (oU (wI u e33 (upd (mI u e33) (Int32.toNatClampNeg (x2 + x3)) 0)) (fun u34 => k85 u34 a0 x1 x2 (x3 + 1))))))
set_option maxRecDepth 100000 in
set_option maxHeartbeats 4000000 in
theorem pX9_readOrder_85 {r : Unit} {u' : Mm} {k85 : Mm → Nat → Int32 → Int32 → Int32 → Option (Unit × Mm)} (hk85 : ∀ (u : Mm) (a0 : Nat) (x1 : Int32) (x2 : Int32) (x3 : Int32), k85 u a0 x1 x2 x3 = some (r, u') → Eg MX9_readOrder 9 0 0 (none, u') 85 [(0, .ref a0), (1, .int x1), (2, .int x2), (3, .int x3)] [] u) (u : Mm) (a0 : Nat) (x1 : Int32) (x2 : Int32) (x3 : Int32) (h : bX9_readOrder_85 k85 u a0 x1 x2 x3 = some (r, u')) : Eg MX9_readOrder 9 0 0 (none, u') 85 [(0, .ref a0), (1, .int x1), (2, .int x2), (3, .int x3)] [] u := by
  unfold bX9_readOrder_85 at h
  refine E_iload_n dX9_readOrder_85 rfl rfl ?_
  refine E_bipush (v := 10) dX9_readOrder_86 (by decide) ?_
  refine E_ic_ge (tgt := 106) h dX9_readOrder_88 (by decide) (fun h => ?_) (fun h => ?_)
  · refine E_aload_n dX9_readOrder_106 rfl rfl ?_
    refine E_getA h dX9_readOrder_107 cf9 lk_X9_125 (by decide) (fun _ _ _ => rfl) (fun e7 h => ?_)
    refine E_iload_n dX9_readOrder_110 rfl rfl ?_
    refine E_iload_n dX9_readOrder_111 rfl rfl ?_
    refine E_iast h dX9_readOrder_112 (fun h => ?_)
    refine E_oU h (fun u8 h => ?_)
    refine E_iload_n dX9_readOrder_113 rfl rfl ?_
    refine E_iconst (v := 3) dX9_readOrder_114 (by decide) ?_
    refine E_ic_eq (tgt := 146) h dX9_readOrder_115 (by decide) (fun h => ?_) (fun h => ?_)
    · refine Eg.pick [0, 1, 2] rfl ?_
      exact pX9_readOrder_146 _ _ _ _ h
    · refine E_aload_n dX9_readOrder_118 rfl rfl ?_
      refine E_iload_n dX9_readOrder_119 rfl rfl ?_
      refine E_iconst (v := 1) dX9_readOrder_120 (by decide) ?_
      refine E_iadd dX9_readOrder_121 ?_
      refine F_Vv h (fun m e => tX9_readSum e) dX9_readOrder_122 hm_X9_readSum hv_X9_readSum ln_X9_491 rfl rfl (Nat.le_of_ble_eq_true rfl) (Nat.le_of_ble_eq_true rfl) (kc' := 0) (ks' := 0) rfl rfl (fun u31 h => ?_)
      refine E_aload_n dX9_readOrder_125 rfl rfl ?_
      refine E_iload_n dX9_readOrder_126 rfl rfl ?_
      refine E_iconst (v := 2) dX9_readOrder_127 (by decide) ?_
      refine E_ic_ne (tgt := 137) h dX9_readOrder_128 (by decide) (fun h => ?_) (fun h => ?_)
      · refine E_ldc2 dX9_readOrder_137 rfl cn_X9_496 ?_
        refine Eg.pick [0, 1, 2] rfl ?_
        exact pX9_readOrder_140 _ _ _ _ _ _ h
      · refine E_ldc2 dX9_readOrder_131 rfl cn_X9_494 ?_
        refine E_goto (tgt := 140) dX9_readOrder_134 (by decide) ?_
        refine Eg.pick [0, 1, 2] rfl ?_
        exact pX9_readOrder_140 _ _ _ _ _ _ h
  · refine E_aload_n dX9_readOrder_91 rfl rfl ?_
    refine E_getA h dX9_readOrder_92 cf9 lk_X9_125 (by decide) (fun _ _ _ => rfl) (fun e33 h => ?_)
    refine E_iload_n dX9_readOrder_95 rfl rfl ?_
    refine E_iload_n dX9_readOrder_96 rfl rfl ?_
    refine E_iadd dX9_readOrder_97 ?_
    refine E_iconst (v := 0) dX9_readOrder_98 (by decide) ?_
    refine E_iast h dX9_readOrder_99 (fun h => ?_)
    refine E_oU h (fun u34 h => ?_)
    refine E_iinc (j := 3) (v := x3 + 1) (l' := [(3, .int (x3 + 1)), (0, .ref a0), (1, .int x1), (2, .int x2)]) dX9_readOrder_100 rfl (addI (by decide)) (Nat.le_of_ble_eq_true rfl) rfl ?_
    refine E_goto (tgt := 85) dX9_readOrder_103 (by decide) ?_
    refine Eg.pick [1, 2, 3, 0] rfl ?_
    exact hk85 _ _ _ _ _ h
def rX9_readOrder_85 : Nat → Mm → Nat → Int32 → Int32 → Int32 → Option (Unit × Mm)
  | 0, _, _, _, _, _ => none
  | n + 1, u, a0, x1, x2, x3 => bX9_readOrder_85 (rX9_readOrder_85 n) u a0 x1 x2 x3
theorem prX9_readOrder_85 {r : Unit} {u' : Mm} : ∀ (n : Nat) (u : Mm) (a0 : Nat) (x1 : Int32) (x2 : Int32) (x3 : Int32), rX9_readOrder_85 n u a0 x1 x2 x3 = some (r, u') → Eg MX9_readOrder 9 0 0 (none, u') 85 [(0, .ref a0), (1, .int x1), (2, .int x2), (3, .int x3)] [] u
  | 0, _, _, _, _, _, h => by cases h
  | n + 1, u, a0, x1, x2, x3, h => pX9_readOrder_85 (prX9_readOrder_85 n) u a0 x1 x2 x3 h
def bX9_readOrder_54 (u : Mm) (a0 : Nat) (x1 : Int32) (s0 : Int32) (s1 : Nat) : Option (Unit × Mm) := oR u s1 9 (oB (fX9_must u s1 s0) (fun _ u1 => oK u1 a0 9 54 (oI (mI u1 a0 19) (fun v2 => (if (v2 : Int32) = 0 then oK u1 a0 9 54 (oI (mI u1 a0 21) (fun v3 => oI ((10 : Int32) * v3) (fun v4 => oK u1 a0 9 54 (oI (mI u1 a0 21) (fun v5 => oK u1 a0 9 54 (oU (wI u1 a0 (upd (mI u1 a0) 21 (v5 + 1))) (fun u6 => rX9_readOrder_85 hwF u6 a0 x1 v4 0))))))) else some ((), u1))))))
set_option maxRecDepth 100000 in
set_option maxHeartbeats 4000000 in
theorem pX9_readOrder_54 {r : Unit} {u' : Mm} (u : Mm) (a0 : Nat) (x1 : Int32) (s0 : Int32) (s1 : Nat) (h : bX9_readOrder_54 u a0 x1 s0 s1 = some (r, u')) : Eg MX9_readOrder 9 0 0 (none, u') 54 [(0, .ref a0), (1, .int x1)] [.int s0, .ref s1] u := by
  unfold bX9_readOrder_54 at h
  refine F_Vv h (fun m e => tX9_must e) dX9_readOrder_54 hm_X9_must hv_X9_must ln_X9_254 rfl rfl (Nat.le_of_ble_eq_true rfl) (Nat.le_of_ble_eq_true rfl) (kc' := 0) (ks' := 0) rfl rfl (fun u1 h => ?_)
  refine E_aload_n dX9_readOrder_57 rfl rfl ?_
  refine E_getI h dX9_readOrder_58 cf9 lk_X9_223 (by decide) (fun _ _ _ => rfl) (fun h => ?_)
  refine E_oI h (fun v2 h => ?_)
  refine E_if_eq (tgt := 65) h dX9_readOrder_61 (by decide) (fun h => ?_) (fun h => ?_)
  · refine E_bipush (v := 10) dX9_readOrder_65 (by decide) ?_
    refine E_aload_n dX9_readOrder_67 rfl rfl ?_
    refine E_getI h dX9_readOrder_68 cf9 lk_X9_348 (by decide) (fun _ _ _ => rfl) (fun h => ?_)
    refine E_oI h (fun v3 h => ?_)
    refine E_imul dX9_readOrder_71 ?_
    refine E_oI h (fun v4 h => ?_)
    refine E_istore_n (l' := [(2, .int v4), (0, .ref a0), (1, .int x1)]) dX9_readOrder_72 rfl (Nat.le_of_ble_eq_true rfl) rfl ?_
    refine E_aload_n dX9_readOrder_73 rfl rfl ?_
    refine E_dup dX9_readOrder_74 rfl ?_
    refine E_getI h dX9_readOrder_75 cf9 lk_X9_348 (by decide) (fun _ _ _ => rfl) (fun h => ?_)
    refine E_oI h (fun v5 h => ?_)
    refine E_iconst (v := 1) dX9_readOrder_78 (by decide) ?_
    refine E_iadd dX9_readOrder_79 ?_
    refine E_putI h dX9_readOrder_80 cf9 lk_X9_348 (by decide) (Or.inl rfl) rfl (fun h => ?_)
    refine E_oU h (fun u6 h => ?_)
    refine E_iconst (v := 0) dX9_readOrder_83 (by decide) ?_
    refine E_istore_n (l' := [(3, .int 0), (2, .int v4), (0, .ref a0), (1, .int x1)]) dX9_readOrder_84 rfl (Nat.le_of_ble_eq_true rfl) rfl ?_
    refine Eg.pick [2, 3, 1, 0] rfl ?_
    exact prX9_readOrder_85 _ _ _ _ _ _ h
  · exact E_vret h dX9_readOrder_64 rfl
def bX9_readOrder_53 (u : Mm) (a0 : Nat) (x1 : Int32) (s0 : Nat) : Option (Unit × Mm) := bX9_readOrder_54 u a0 x1 0 s0
set_option maxRecDepth 100000 in
set_option maxHeartbeats 4000000 in
theorem pX9_readOrder_53 {r : Unit} {u' : Mm} (u : Mm) (a0 : Nat) (x1 : Int32) (s0 : Nat) (h : bX9_readOrder_53 u a0 x1 s0 = some (r, u')) : Eg MX9_readOrder 9 0 0 (none, u') 53 [(0, .ref a0), (1, .int x1)] [.ref s0] u := by
  unfold bX9_readOrder_53 at h
  refine E_iconst (v := 0) dX9_readOrder_53 (by decide) ?_
  refine Eg.pick [0, 1] rfl ?_
  exact pX9_readOrder_54 _ _ _ _ _ h
def bX9_readOrder_27 (k4 : Mm → Nat → Int32 → Int32 → Option (Unit × Mm)) (u : Mm) (a0 : Nat) (x2 : Int32) (s0 : Int32) : Option (Unit × Mm) := k4 u a0 s0 (x2 + 1)
set_option maxRecDepth 100000 in
set_option maxHeartbeats 4000000 in
theorem pX9_readOrder_27 {r : Unit} {u' : Mm} {k4 : Mm → Nat → Int32 → Int32 → Option (Unit × Mm)} (hk4 : ∀ (u : Mm) (a0 : Nat) (x1 : Int32) (x2 : Int32), k4 u a0 x1 x2 = some (r, u') → Eg MX9_readOrder 9 0 0 (none, u') 4 [(0, .ref a0), (1, .int x1), (2, .int x2)] [] u) (u : Mm) (a0 : Nat) (x2 : Int32) (s0 : Int32) (h : bX9_readOrder_27 k4 u a0 x2 s0 = some (r, u')) : Eg MX9_readOrder 9 0 0 (none, u') 27 [(0, .ref a0), (2, .int x2)] [.int s0] u := by
  unfold bX9_readOrder_27 at h
  refine E_istore_n (l' := [(1, .int s0), (0, .ref a0), (2, .int x2)]) dX9_readOrder_27 rfl (Nat.le_of_ble_eq_true rfl) rfl ?_
  refine E_iinc (j := 2) (v := x2 + 1) (l' := [(2, .int (x2 + 1)), (1, .int s0), (0, .ref a0)]) dX9_readOrder_28 rfl (addI (by decide)) (Nat.le_of_ble_eq_true rfl) rfl ?_
  refine E_goto (tgt := 4) dX9_readOrder_31 (by decide) ?_
  refine Eg.pick [2, 1, 0] rfl ?_
  exact hk4 _ _ _ _ h
def bX9_readOrder_4 (k4 : Mm → Nat → Int32 → Int32 → Option (Unit × Mm)) (u : Mm) (a0 : Nat) (x1 : Int32) (x2 : Int32) : Option (Unit × Mm) := (if (4 : Int32) ≤ x2 then (if (x1 : Int32) = ((-1)) then bX9_readOrder_53 u a0 x1 a0 else oK u a0 9 54 (oI (mI u a0 21) (fun v35 => (if (12 : Int32) ≤ v35 then bX9_readOrder_53 u a0 x1 a0 else bX9_readOrder_54 u a0 x1 1 a0)))) else oK u a0 9 54 (oNn (mR u a0 45) (fun e36 => oA u e36 11 x2 (oJ (mL u e36 (Int32.toNatClampNeg x2)) (fun w37 => oR u a0 9 (oB (fX9_isWord u a0 w37) (fun v38 u39 => (if (v38 : Int32) = 0 then bX9_readOrder_27 k4 u39 a0 x2 x1 else bX9_readOrder_27 k4 u39 a0 x2 x2))))))))
set_option maxRecDepth 100000 in
set_option maxHeartbeats 4000000 in
theorem pX9_readOrder_4 {r : Unit} {u' : Mm} {k4 : Mm → Nat → Int32 → Int32 → Option (Unit × Mm)} (hk4 : ∀ (u : Mm) (a0 : Nat) (x1 : Int32) (x2 : Int32), k4 u a0 x1 x2 = some (r, u') → Eg MX9_readOrder 9 0 0 (none, u') 4 [(0, .ref a0), (1, .int x1), (2, .int x2)] [] u) (u : Mm) (a0 : Nat) (x1 : Int32) (x2 : Int32) (h : bX9_readOrder_4 k4 u a0 x1 x2 = some (r, u')) : Eg MX9_readOrder 9 0 0 (none, u') 4 [(0, .ref a0), (1, .int x1), (2, .int x2)] [] u := by
  unfold bX9_readOrder_4 at h
  refine E_iload_n dX9_readOrder_4 rfl rfl ?_
  refine E_iconst (v := 4) dX9_readOrder_5 (by decide) ?_
  refine E_ic_ge (tgt := 34) h dX9_readOrder_6 (by decide) (fun h => ?_) (fun h => ?_)
  · refine E_aload_n dX9_readOrder_34 rfl rfl ?_
    refine E_iload_n dX9_readOrder_35 rfl rfl ?_
    refine E_iconst (v := (-1)) dX9_readOrder_36 (by decide) ?_
    refine E_ic_eq (tgt := 53) h dX9_readOrder_37 (by decide) (fun h => ?_) (fun h => ?_)
    · refine Eg.pick [0, 1] rfl ?_
      exact pX9_readOrder_53 _ _ _ _ h
    · refine E_aload_n dX9_readOrder_40 rfl rfl ?_
      refine E_getI h dX9_readOrder_41 cf9 lk_X9_348 (by decide) (fun _ _ _ => rfl) (fun h => ?_)
      refine E_oI h (fun v35 h => ?_)
      refine E_bipush (v := 12) dX9_readOrder_44 (by decide) ?_
      refine E_ic_ge (tgt := 53) h dX9_readOrder_46 (by decide) (fun h => ?_) (fun h => ?_)
      · refine Eg.pick [0, 1] rfl ?_
        exact pX9_readOrder_53 _ _ _ _ h
      · refine E_iconst (v := 1) dX9_readOrder_49 (by decide) ?_
        refine E_goto (tgt := 54) dX9_readOrder_50 (by decide) ?_
        refine Eg.pick [0, 1] rfl ?_
        exact pX9_readOrder_54 _ _ _ _ _ h
  · refine E_aload_n dX9_readOrder_9 rfl rfl ?_
    refine E_aload_n dX9_readOrder_10 rfl rfl ?_
    refine E_getA h dX9_readOrder_11 cf9 lk_X9_122 (by decide) (fun _ _ _ => rfl) (fun e36 h => ?_)
    refine E_iload_n dX9_readOrder_14 rfl rfl ?_
    refine E_lald h dX9_readOrder_15 (fun h => ?_)
    refine E_oJ h (fun w37 h => ?_)
    refine F_Vi h (fun a m e => tX9_isWord e) dX9_readOrder_16 hm_X9_isWord hv_X9_isWord ln_X9_277 rfl rfl (Nat.le_of_ble_eq_true rfl) (Nat.le_of_ble_eq_true rfl) (kc' := 0) (ks' := 0) rfl rfl (fun v38 u39 h => ?_)
    refine E_if_eq (tgt := 26) h dX9_readOrder_19 (by decide) (fun h => ?_) (fun h => ?_)
    · refine E_iload_n dX9_readOrder_26 rfl rfl ?_
      refine Eg.pick [0, 2] rfl ?_
      exact pX9_readOrder_27 hk4 _ _ _ _ h
    · refine E_iload_n dX9_readOrder_22 rfl rfl ?_
      refine E_goto (tgt := 27) dX9_readOrder_23 (by decide) ?_
      refine Eg.pick [0, 2] rfl ?_
      exact pX9_readOrder_27 hk4 _ _ _ _ h
def rX9_readOrder_4 : Nat → Mm → Nat → Int32 → Int32 → Option (Unit × Mm)
  | 0, _, _, _, _ => none
  | n + 1, u, a0, x1, x2 => bX9_readOrder_4 (rX9_readOrder_4 n) u a0 x1 x2
theorem prX9_readOrder_4 {r : Unit} {u' : Mm} : ∀ (n : Nat) (u : Mm) (a0 : Nat) (x1 : Int32) (x2 : Int32), rX9_readOrder_4 n u a0 x1 x2 = some (r, u') → Eg MX9_readOrder 9 0 0 (none, u') 4 [(0, .ref a0), (1, .int x1), (2, .int x2)] [] u
  | 0, _, _, _, _, h => by cases h
  | n + 1, u, a0, x1, x2, h => pX9_readOrder_4 (prX9_readOrder_4 n) u a0 x1 x2 h
def fX9_readOrder (u : Mm) (a0 : Nat) : Option (Unit × Mm) := rX9_readOrder_4 hwF u a0 ((-1)) 0
set_option maxRecDepth 100000 in
set_option maxHeartbeats 4000000 in
theorem tX9_readOrder {u : Mm} {a0 : Nat} {r : Unit} {u' : Mm} (h : fX9_readOrder u a0 = some (r, u')) : Ev 9 MX9_readOrder 0 0 [.ref a0] u (none, u') := by
  refine Ev.of (by decide +kernel) (Nat.le_of_ble_eq_true rfl) (show Eg MX9_readOrder 9 0 0 (none, u') 0 [(0, .ref a0)] [] u from ?_)
  unfold fX9_readOrder at h
  refine E_iconst (v := (-1)) dX9_readOrder_0 (by decide) ?_
  refine E_istore_n (l' := [(1, .int ((-1))), (0, .ref a0)]) dX9_readOrder_1 rfl (Nat.le_of_ble_eq_true rfl) rfl ?_
  refine E_iconst (v := 0) dX9_readOrder_2 (by decide) ?_
  refine E_istore_n (l' := [(2, .int 0), (1, .int ((-1))), (0, .ref a0)]) dX9_readOrder_3 rfl (Nat.le_of_ble_eq_true rfl) rfl ?_
  refine Eg.pick [2, 1, 0] rfl ?_
  exact prX9_readOrder_4 _ _ _ _ _ h
def fX9_sumOf (u : Mm) (a0 : Nat) (x1 : Int32) : Option (Int32 × Mm) := oK u a0 9 54 (oI (mI u a0 50) (fun v1 => (if (v1 : Int32) = 0 then oK u a0 9 54 (oNn (mR u a0 46) (fun e2 => oA u e2 10 x1 (oI (mI u e2 (Int32.toNatClampNeg x1)) (fun v3 => oK u a0 9 54 (oNn (mR u a0 46) (fun e4 => oA u e4 10 (x1 + 1) (oI (mI u e4 (Int32.toNatClampNeg (x1 + 1))) (fun v5 => (if (v3 : Int32) = v5 then some ((-1), u) else oK u a0 9 54 (oZ 1 (oU (wI u a0 (upd (mI u a0) 20 1)) (fun u6 => oK u6 a0 9 54 (oNn (mR u6 a0 46) (fun e7 => oA u6 e7 10 x1 (oI (mI u6 e7 (Int32.toNatClampNeg x1)) (fun v8 => oK u6 a0 9 54 (oNn (mR u6 a0 46) (fun e9 => oA u6 e9 10 (x1 + 1) (oI (mI u6 e9 (Int32.toNatClampNeg (x1 + 1))) (fun v10 => oR u6 a0 9 (oB (fX9_reckonAll u6 a0 v8 v10) (fun _ u11 => oK u11 a0 9 54 (oZ 0 (oU (wI u11 a0 (upd (mI u11 a0) 20 0)) (fun u12 => oK u12 a0 9 54 (oI (mI u12 a0 38) (fun v13 => oK u12 a0 9 54 (oZ v13 (oU (wI u12 a0 (upd (mI u12 a0) 50 v13)) (fun u14 => oK u14 a0 9 54 (oJ (mL u14 a0 39) (fun w15 => some (Int64.toInt32 w15, u14))))))))))))))))))))))))))))))))) else some ((-1), u))))
set_option maxRecDepth 100000 in
set_option maxHeartbeats 4000000 in
theorem tX9_sumOf {u : Mm} {a0 : Nat} {x1 : Int32} {r : Int32} {u' : Mm} (h : fX9_sumOf u a0 x1 = some (r, u')) : Ev 2 MX9_sumOf 0 0 [.ref a0, .int x1] u (some (.int r), u') := by
  refine Ev.of (by decide +kernel) (Nat.le_of_ble_eq_true rfl) (show Eg MX9_sumOf 2 0 0 (some (.int r), u') 0 [(0, .ref a0), (1, .int x1)] [] u from ?_)
  unfold fX9_sumOf at h
  refine E_aload_n dX9_sumOf_0 rfl rfl ?_
  refine E_getI h dX9_sumOf_1 cf9 lk_X9_506 (by decide) (fun _ _ _ => rfl) (fun h => ?_)
  refine E_oI h (fun v1 h => ?_)
  refine E_if_ne (tgt := 24) h dX9_sumOf_4 (by decide) (fun h => ?_) (fun h => ?_)
  · refine E_iconst (v := (-1)) dX9_sumOf_24 (by decide) ?_
    exact E_iret h dX9_sumOf_25 rfl
  · refine E_aload_n dX9_sumOf_7 rfl rfl ?_
    refine E_getA h dX9_sumOf_8 cf9 lk_X9_125 (by decide) (fun _ _ _ => rfl) (fun e2 h => ?_)
    refine E_iload_n dX9_sumOf_11 rfl rfl ?_
    refine E_iald h dX9_sumOf_12 (fun h => ?_)
    refine E_oI h (fun v3 h => ?_)
    refine E_aload_n dX9_sumOf_13 rfl rfl ?_
    refine E_getA h dX9_sumOf_14 cf9 lk_X9_125 (by decide) (fun _ _ _ => rfl) (fun e4 h => ?_)
    refine E_iload_n dX9_sumOf_17 rfl rfl ?_
    refine E_iconst (v := 1) dX9_sumOf_18 (by decide) ?_
    refine E_iadd dX9_sumOf_19 ?_
    refine E_iald h dX9_sumOf_20 (fun h => ?_)
    refine E_oI h (fun v5 h => ?_)
    refine E_ic_ne (tgt := 26) h dX9_sumOf_21 (by decide) (fun h => ?_) (fun h => ?_)
    · refine E_aload_n dX9_sumOf_26 rfl rfl ?_
      refine E_iconst (v := 1) dX9_sumOf_27 (by decide) ?_
      refine E_putZ h dX9_sumOf_28 cf9 lk_X9_296 (by decide) (Or.inl rfl) rfl (fun h => ?_)
      refine E_oU h (fun u6 h => ?_)
      refine E_aload_n dX9_sumOf_31 rfl rfl ?_
      refine E_aload_n dX9_sumOf_32 rfl rfl ?_
      refine E_getA h dX9_sumOf_33 cf9 lk_X9_125 (by decide) (fun _ _ _ => rfl) (fun e7 h => ?_)
      refine E_iload_n dX9_sumOf_36 rfl rfl ?_
      refine E_iald h dX9_sumOf_37 (fun h => ?_)
      refine E_oI h (fun v8 h => ?_)
      refine E_aload_n dX9_sumOf_38 rfl rfl ?_
      refine E_getA h dX9_sumOf_39 cf9 lk_X9_125 (by decide) (fun _ _ _ => rfl) (fun e9 h => ?_)
      refine E_iload_n dX9_sumOf_42 rfl rfl ?_
      refine E_iconst (v := 1) dX9_sumOf_43 (by decide) ?_
      refine E_iadd dX9_sumOf_44 ?_
      refine E_iald h dX9_sumOf_45 (fun h => ?_)
      refine E_oI h (fun v10 h => ?_)
      refine F_Vv h (fun m e => tX9_reckonAll e) dX9_sumOf_46 hm_X9_reckonAll hv_X9_reckonAll ln_X9_385 rfl rfl (Nat.le_of_ble_eq_true rfl) (Nat.le_of_ble_eq_true rfl) (kc' := 0) (ks' := 0) rfl rfl (fun u11 h => ?_)
      refine E_aload_n dX9_sumOf_49 rfl rfl ?_
      refine E_iconst (v := 0) dX9_sumOf_50 (by decide) ?_
      refine E_putZ h dX9_sumOf_51 cf9 lk_X9_296 (by decide) (Or.inl rfl) rfl (fun h => ?_)
      refine E_oU h (fun u12 h => ?_)
      refine E_aload_n dX9_sumOf_54 rfl rfl ?_
      refine E_aload_n dX9_sumOf_55 rfl rfl ?_
      refine E_getI h dX9_sumOf_56 cf9 lk_X9_368 (by decide) (fun _ _ _ => rfl) (fun h => ?_)
      refine E_oI h (fun v13 h => ?_)
      refine E_putZ h dX9_sumOf_59 cf9 lk_X9_506 (by decide) (Or.inl rfl) rfl (fun h => ?_)
      refine E_oU h (fun u14 h => ?_)
      refine E_aload_n dX9_sumOf_62 rfl rfl ?_
      refine E_getL h dX9_sumOf_63 cf9 lk_X9_382 (by decide) (fun _ _ _ => rfl) (fun h => ?_)
      refine E_oJ h (fun w15 h => ?_)
      refine E_l2i dX9_sumOf_66 ?_
      exact E_iret h dX9_sumOf_67 rfl
    · refine E_iconst (v := (-1)) dX9_sumOf_24 (by decide) ?_
      exact E_iret h dX9_sumOf_25 rfl
def fX9_act (u : Mm) (a0 : Nat) (x1 : Int32) (x2 : Int32) (x3 : Int32) (x4 : Int32) : Option (Int32 × Mm) := (if (x1 : Int32) = 0 then oR u a0 9 (oB (fX9_attackNow u a0 x2 x3) (fun v1 u2 => some (v1, u2))) else (if (x1 : Int32) = 1 then oR u a0 9 (oB (fX9_shiftNow u a0 x2 x3 x4) (fun v3 u4 => some (v3, u4))) else (if (x1 : Int32) = 2 then oR u a0 9 (oB (fX9_showNow u a0 x2 x3) (fun v5 u6 => some (v5, u6))) else oR u a0 9 (oB (fX9_passNow u a0) (fun v7 u8 => some (v7, u8))))))
set_option maxRecDepth 100000 in
set_option maxHeartbeats 4000000 in
theorem tX9_act {u : Mm} {a0 : Nat} {x1 : Int32} {x2 : Int32} {x3 : Int32} {x4 : Int32} {r : Int32} {u' : Mm} (h : fX9_act u a0 x1 x2 x3 x4 = some (r, u')) : Ev 7 MX9_act 0 0 [.ref a0, .int x1, .int x2, .int x3, .int x4] u (some (.int r), u') := by
  refine Ev.of (by decide +kernel) (Nat.le_of_ble_eq_true rfl) (show Eg MX9_act 7 0 0 (some (.int r), u') 0 [(0, .ref a0), (1, .int x1), (2, .int x2), (3, .int x3), (4, .int x4)] [] u from ?_)
  unfold fX9_act at h
  refine E_iload_n dX9_act_0 rfl rfl ?_
  refine ite_cases h (fun c1_0 h => ?_) (fun c1_0 h => ?_)
  · refine E_tabIn (off := 27) (tgt := 28) dX9_act_1 c1_0 (by decide +kernel) (by decide +kernel) (by decide +kernel) (by decide) ?_
    refine E_aload_n dX9_act_28 rfl rfl ?_
    refine E_iload_n dX9_act_29 rfl rfl ?_
    refine E_iload_n dX9_act_30 rfl rfl ?_
    refine F_Vi h (fun a m e => tX9_attackNow e) dX9_act_31 hm_X9_attackNow hv_X9_attackNow ln_X9_418 rfl rfl (Nat.le_of_ble_eq_true rfl) (Nat.le_of_ble_eq_true rfl) (kc' := 0) (ks' := 0) rfl rfl (fun v1 u2 h => ?_)
    exact E_iret h dX9_act_34 rfl
  · refine ite_cases h (fun c1_1 h => ?_) (fun c1_1 h => ?_)
    · refine E_tabIn (off := 34) (tgt := 35) dX9_act_1 c1_1 (by decide +kernel) (by decide +kernel) (by decide +kernel) (by decide) ?_
      refine E_aload_n dX9_act_35 rfl rfl ?_
      refine E_iload_n dX9_act_36 rfl rfl ?_
      refine E_iload_n dX9_act_37 rfl rfl ?_
      refine E_iload dX9_act_38 rfl ?_
      refine F_Vi h (fun a m e => tX9_shiftNow e) dX9_act_40 hm_X9_shiftNow hv_X9_shiftNow ln_X9_426 rfl rfl (Nat.le_of_ble_eq_true rfl) (Nat.le_of_ble_eq_true rfl) (kc' := 0) (ks' := 0) rfl rfl (fun v3 u4 h => ?_)
      exact E_iret h dX9_act_43 rfl
    · refine ite_cases h (fun c1_2 h => ?_) (fun c1_2 h => ?_)
      · refine E_tabIn (off := 43) (tgt := 44) dX9_act_1 c1_2 (by decide +kernel) (by decide +kernel) (by decide +kernel) (by decide) ?_
        refine E_aload_n dX9_act_44 rfl rfl ?_
        refine E_iload_n dX9_act_45 rfl rfl ?_
        refine E_iload_n dX9_act_46 rfl rfl ?_
        refine F_Vi h (fun a m e => tX9_showNow e) dX9_act_47 hm_X9_showNow hv_X9_showNow ln_X9_433 rfl rfl (Nat.le_of_ble_eq_true rfl) (Nat.le_of_ble_eq_true rfl) (kc' := 0) (ks' := 0) rfl rfl (fun v5 u6 h => ?_)
        exact E_iret h dX9_act_50 rfl
      · refine E_tabD (tgt := 51) [0, 1, 2] dX9_act_1 (by intro k hk; simp only [List.mem_cons, List.not_mem_nil, or_false] at hk; rcases hk with rfl | rfl | rfl <;> first | exact ne_lit (by decide +kernel) c1_0 | exact ne_lit (by decide +kernel) c1_1 | exact ne_lit (by decide +kernel) c1_2) (by decide +kernel) (by decide) ?_
        refine E_aload_n dX9_act_51 rfl rfl ?_
        refine F_Vi h (fun a m e => tX9_passNow e) dX9_act_52 hm_X9_passNow hv_X9_passNow ln_X9_439 rfl rfl (Nat.le_of_ble_eq_true rfl) (Nat.le_of_ble_eq_true rfl) (kc' := 0) (ks' := 0) rfl rfl (fun v7 u8 h => ?_)
        exact E_iret h dX9_act_55 rfl
def bX9_run_163 (u : Mm) (a0 : Nat) (s0 : Int32) (s1 : Nat) : Option (Int32 × Mm) := oK u s1 9 54 (oU (wI u s1 (upd (mI u s1) 48 s0)) (fun u30 => oK u30 a0 9 54 (oI (mI u30 a0 47) (fun v31 => oK u30 a0 9 54 (oU (wI u30 a0 (upd (mI u30 a0) 47 (v31 + 1))) (fun u32 => some (0, u32)))))))
set_option maxRecDepth 100000 in
set_option maxHeartbeats 4000000 in
theorem pX9_run_163 {r : Int32} {u' : Mm} (u : Mm) (a0 : Nat) (s0 : Int32) (s1 : Nat) (h : bX9_run_163 u a0 s0 s1 = some (r, u')) : Eg MX9_run 8 0 0 (some (.int r), u') 163 [(0, .ref a0)] [.int s0, .ref s1] u := by
  unfold bX9_run_163 at h
  refine E_putI h dX9_run_163 cf9 lk_X9_512 (by decide) (Or.inl rfl) rfl (fun h => ?_)
  refine E_oU h (fun u30 h => ?_)
  refine E_aload_n dX9_run_166 rfl rfl ?_
  refine E_dup dX9_run_167 rfl ?_
  refine E_getI h dX9_run_168 cf9 lk_X9_509 (by decide) (fun _ _ _ => rfl) (fun h => ?_)
  refine E_oI h (fun v31 h => ?_)
  refine E_iconst (v := 1) dX9_run_171 (by decide) ?_
  refine E_iadd dX9_run_172 ?_
  refine E_putI h dX9_run_173 cf9 lk_X9_509 (by decide) (Or.inl rfl) rfl (fun h => ?_)
  refine E_oU h (fun u32 h => ?_)
  refine E_iconst (v := 0) dX9_run_176 (by decide) ?_
  exact E_iret h dX9_run_177 rfl
def bX9_run_85 (u : Mm) (a0 : Nat) (x1 : Int32) : Option (Int32 × Mm) := oR u a0 9 (oB (fX9_sumOf u a0 (x1 + 1)) (fun v16 u17 => oR u17 a0 9 (oB (fX9_sumOf u17 a0 (x1 + 3)) (fun v18 u19 => oR u19 a0 9 (oB (fX9_sumOf u19 a0 (x1 + 5)) (fun v20 u21 => oK u21 a0 9 54 (oI (mI u21 a0 50) (fun v22 => (if (v22 : Int32) = 0 then oK u21 a0 9 54 (oNn (mR u21 a0 46) (fun e23 => oA u21 e23 10 x1 (oI (mI u21 e23 (Int32.toNatClampNeg x1)) (fun v24 => oR u21 a0 9 (oB (fX9_act u21 a0 v24 v16 v18 v20) (fun v25 u26 => (if 0 ≤ (v25 : Int32) then oK u26 a0 9 54 (oNn (mR u26 a0 46) (fun e27 => oA u26 e27 10 x1 (oI (mI u26 e27 (Int32.toNatClampNeg x1)) (fun v28 => (if (v28 : Int32) = 0 then bX9_run_163 u26 a0 v25 a0 else oK u26 a0 9 54 (oI (mI u26 a0 48) (fun v29 => bX9_run_163 u26 a0 v29 a0))))))) else some ((-3), u26)))))))) else some ((-3), u21))))))))))
set_option maxRecDepth 100000 in
set_option maxHeartbeats 4000000 in
theorem pX9_run_85 {r : Int32} {u' : Mm} (u : Mm) (a0 : Nat) (x1 : Int32) (h : bX9_run_85 u a0 x1 = some (r, u')) : Eg MX9_run 8 0 0 (some (.int r), u') 85 [(0, .ref a0), (1, .int x1)] [] u := by
  unfold bX9_run_85 at h
  refine E_aload_n dX9_run_85 rfl rfl ?_
  refine E_iload_n dX9_run_86 rfl rfl ?_
  refine E_iconst (v := 1) dX9_run_87 (by decide) ?_
  refine E_iadd dX9_run_88 ?_
  refine F_Vi h (fun a m e => tX9_sumOf e) dX9_run_89 hm_X9_sumOf hv_X9_sumOf ln_X9_515 rfl rfl (Nat.le_of_ble_eq_true rfl) (Nat.le_of_ble_eq_true rfl) (kc' := 0) (ks' := 0) rfl rfl (fun v16 u17 h => ?_)
  refine E_istore_n (l' := [(2, .int v16), (0, .ref a0), (1, .int x1)]) dX9_run_92 rfl (Nat.le_of_ble_eq_true rfl) rfl ?_
  refine E_aload_n dX9_run_93 rfl rfl ?_
  refine E_iload_n dX9_run_94 rfl rfl ?_
  refine E_iconst (v := 3) dX9_run_95 (by decide) ?_
  refine E_iadd dX9_run_96 ?_
  refine F_Vi h (fun a m e => tX9_sumOf e) dX9_run_97 hm_X9_sumOf hv_X9_sumOf ln_X9_515 rfl rfl (Nat.le_of_ble_eq_true rfl) (Nat.le_of_ble_eq_true rfl) (kc' := 0) (ks' := 0) rfl rfl (fun v18 u19 h => ?_)
  refine E_istore_n (l' := [(3, .int v18), (2, .int v16), (0, .ref a0), (1, .int x1)]) dX9_run_100 rfl (Nat.le_of_ble_eq_true rfl) rfl ?_
  refine E_aload_n dX9_run_101 rfl rfl ?_
  refine E_iload_n dX9_run_102 rfl rfl ?_
  refine E_iconst (v := 5) dX9_run_103 (by decide) ?_
  refine E_iadd dX9_run_104 ?_
  refine F_Vi h (fun a m e => tX9_sumOf e) dX9_run_105 hm_X9_sumOf hv_X9_sumOf ln_X9_515 rfl rfl (Nat.le_of_ble_eq_true rfl) (Nat.le_of_ble_eq_true rfl) (kc' := 0) (ks' := 0) rfl rfl (fun v20 u21 h => ?_)
  refine E_istore (l' := [(4, .int v20), (3, .int v18), (2, .int v16), (0, .ref a0), (1, .int x1)]) dX9_run_108 (Nat.le_of_ble_eq_true rfl) rfl ?_
  refine E_aload_n dX9_run_110 rfl rfl ?_
  refine E_getI h dX9_run_111 cf9 lk_X9_506 (by decide) (fun _ _ _ => rfl) (fun h => ?_)
  refine E_oI h (fun v22 h => ?_)
  refine E_if_eq (tgt := 120) h dX9_run_114 (by decide) (fun h => ?_) (fun h => ?_)
  · refine E_aload_n dX9_run_120 rfl rfl ?_
    refine E_aload_n dX9_run_121 rfl rfl ?_
    refine E_getA h dX9_run_122 cf9 lk_X9_125 (by decide) (fun _ _ _ => rfl) (fun e23 h => ?_)
    refine E_iload_n dX9_run_125 rfl rfl ?_
    refine E_iald h dX9_run_126 (fun h => ?_)
    refine E_oI h (fun v24 h => ?_)
    refine E_iload_n dX9_run_127 rfl rfl ?_
    refine E_iload_n dX9_run_128 rfl rfl ?_
    refine E_iload dX9_run_129 rfl ?_
    refine F_Vi h (fun a m e => tX9_act e) dX9_run_131 hm_X9_act hv_X9_act ln_X9_518 rfl rfl (Nat.le_of_ble_eq_true rfl) (Nat.le_of_ble_eq_true rfl) (kc' := 0) (ks' := 0) rfl rfl (fun v25 u26 h => ?_)
    refine E_istore (l' := [(5, .int v25), (4, .int v20), (3, .int v18), (2, .int v16), (0, .ref a0), (1, .int x1)]) dX9_run_134 (Nat.le_of_ble_eq_true rfl) rfl ?_
    refine E_iload dX9_run_136 rfl ?_
    refine E_if_ge (tgt := 144) h dX9_run_138 (by decide) (fun h => ?_) (fun h => ?_)
    · refine E_aload_n dX9_run_144 rfl rfl ?_
      refine E_aload_n dX9_run_145 rfl rfl ?_
      refine E_getA h dX9_run_146 cf9 lk_X9_125 (by decide) (fun _ _ _ => rfl) (fun e27 h => ?_)
      refine E_iload_n dX9_run_149 rfl rfl ?_
      refine E_iald h dX9_run_150 (fun h => ?_)
      refine E_oI h (fun v28 h => ?_)
      refine E_if_ne (tgt := 159) h dX9_run_151 (by decide) (fun h => ?_) (fun h => ?_)
      · refine E_aload_n dX9_run_159 rfl rfl ?_
        refine E_getI h dX9_run_160 cf9 lk_X9_512 (by decide) (fun _ _ _ => rfl) (fun h => ?_)
        refine E_oI h (fun v29 h => ?_)
        refine Eg.pick [4] rfl ?_
        exact pX9_run_163 _ _ _ _ h
      · refine E_iload dX9_run_154 rfl ?_
        refine E_goto (tgt := 163) dX9_run_156 (by decide) ?_
        refine Eg.pick [4] rfl ?_
        exact pX9_run_163 _ _ _ _ h
    · refine E_bipush (v := (-3)) dX9_run_141 (by decide) ?_
      exact E_iret h dX9_run_143 rfl
  · refine E_bipush (v := (-3)) dX9_run_117 (by decide) ?_
    exact E_iret h dX9_run_119 rfl
def fX9_run (u : Mm) (a0 : Nat) (x1 : Int32) : Option (Int32 × Mm) := oK u a0 9 54 (oNn (mR u a0 36) (fun e1 => oK u a0 9 54 (oNn (mR u a0 3) (fun e2 => oA u e2 10 4 (oI (mI u e2 (Int32.toNatClampNeg 4)) (fun v3 => oA u e1 11 1 (oU (wL u e1 (vp_updL (mL u e1) (Int32.toNatClampNeg 1) (Int32.toInt64 v3))) (fun u4 => oK u4 a0 9 54 (oNn (mR u4 a0 36) (fun e5 => oK u4 a0 9 54 (oI (mI u4 a0 47) (fun v6 => oA u4 e5 11 2 (oU (wL u4 e5 (vp_updL (mL u4 e5) (Int32.toNatClampNeg 2) (Int32.toInt64 v6))) (fun u7 => oK u7 a0 9 54 (oNn (mR u7 a0 36) (fun e8 => oK u7 a0 9 54 (oI (mI u7 a0 48) (fun v9 => oA u7 e8 11 3 (oU (wL u7 e8 (vp_updL (mL u7 e8) (Int32.toNatClampNeg 3) (Int32.toInt64 v9))) (fun u10 => oK u10 a0 9 54 (oZ 0 (oU (wI u10 a0 (upd (mI u10 a0) 50 0)) (fun u11 => oK u11 a0 9 54 (oNn (mR u11 a0 46) (fun e12 => oA u11 e12 10 (x1 + 7) (oI (mI u11 e12 (Int32.toNatClampNeg (x1 + 7))) (fun v13 => oK u11 a0 9 54 (oNn (mR u11 a0 46) (fun e14 => oA u11 e14 10 ((x1 + 7) + 1) (oI (mI u11 e14 (Int32.toNatClampNeg ((x1 + 7) + 1))) (fun v15 => (if (v15 : Int32) ≤ v13 then bX9_run_85 u11 a0 x1 else oR u11 a0 9 (oB (fX9_sumOf u11 a0 (x1 + 7)) (fun v33 u34 => oK u34 a0 9 54 (oI (mI u34 a0 50) (fun v35 => (if (v35 : Int32) = 0 then (if (v33 : Int32) = 0 then some (0, u34) else bX9_run_85 u34 a0 x1) else some (0, u34))))))))))))))))))))))))))))))))))))))
set_option maxRecDepth 100000 in
set_option maxHeartbeats 4000000 in
theorem tX9_run {u : Mm} {a0 : Nat} {x1 : Int32} {r : Int32} {u' : Mm} (h : fX9_run u a0 x1 = some (r, u')) : Ev 8 MX9_run 0 0 [.ref a0, .int x1] u (some (.int r), u') := by
  refine Ev.of (by decide +kernel) (Nat.le_of_ble_eq_true rfl) (show Eg MX9_run 8 0 0 (some (.int r), u') 0 [(0, .ref a0), (1, .int x1)] [] u from ?_)
  unfold fX9_run at h
  refine E_aload_n dX9_run_0 rfl rfl ?_
  refine E_getA h dX9_run_1 cf9 lk_X9_102 (by decide) (fun _ _ _ => rfl) (fun e1 h => ?_)
  refine E_iconst (v := 1) dX9_run_4 (by decide) ?_
  refine E_aload_n dX9_run_5 rfl rfl ?_
  refine E_getA h dX9_run_6 cf9 lk_X9_13 (by decide) (fun _ _ _ => rfl) (fun e2 h => ?_)
  refine E_iconst (v := 4) dX9_run_9 (by decide) ?_
  refine E_iald h dX9_run_10 (fun h => ?_)
  refine E_oI h (fun v3 h => ?_)
  refine E_i2l dX9_run_11 ?_
  refine E_last h dX9_run_12 (fun h => ?_)
  refine E_oU h (fun u4 h => ?_)
  refine E_aload_n dX9_run_13 rfl rfl ?_
  refine E_getA h dX9_run_14 cf9 lk_X9_102 (by decide) (fun _ _ _ => rfl) (fun e5 h => ?_)
  refine E_iconst (v := 2) dX9_run_17 (by decide) ?_
  refine E_aload_n dX9_run_18 rfl rfl ?_
  refine E_getI h dX9_run_19 cf9 lk_X9_509 (by decide) (fun _ _ _ => rfl) (fun h => ?_)
  refine E_oI h (fun v6 h => ?_)
  refine E_i2l dX9_run_22 ?_
  refine E_last h dX9_run_23 (fun h => ?_)
  refine E_oU h (fun u7 h => ?_)
  refine E_aload_n dX9_run_24 rfl rfl ?_
  refine E_getA h dX9_run_25 cf9 lk_X9_102 (by decide) (fun _ _ _ => rfl) (fun e8 h => ?_)
  refine E_iconst (v := 3) dX9_run_28 (by decide) ?_
  refine E_aload_n dX9_run_29 rfl rfl ?_
  refine E_getI h dX9_run_30 cf9 lk_X9_512 (by decide) (fun _ _ _ => rfl) (fun h => ?_)
  refine E_oI h (fun v9 h => ?_)
  refine E_i2l dX9_run_33 ?_
  refine E_last h dX9_run_34 (fun h => ?_)
  refine E_oU h (fun u10 h => ?_)
  refine E_aload_n dX9_run_35 rfl rfl ?_
  refine E_iconst (v := 0) dX9_run_36 (by decide) ?_
  refine E_putZ h dX9_run_37 cf9 lk_X9_506 (by decide) (Or.inl rfl) rfl (fun h => ?_)
  refine E_oU h (fun u11 h => ?_)
  refine E_aload_n dX9_run_40 rfl rfl ?_
  refine E_getA h dX9_run_41 cf9 lk_X9_125 (by decide) (fun _ _ _ => rfl) (fun e12 h => ?_)
  refine E_iload_n dX9_run_44 rfl rfl ?_
  refine E_bipush (v := 7) dX9_run_45 (by decide) ?_
  refine E_iadd dX9_run_47 ?_
  refine E_iald h dX9_run_48 (fun h => ?_)
  refine E_oI h (fun v13 h => ?_)
  refine E_aload_n dX9_run_49 rfl rfl ?_
  refine E_getA h dX9_run_50 cf9 lk_X9_125 (by decide) (fun _ _ _ => rfl) (fun e14 h => ?_)
  refine E_iload_n dX9_run_53 rfl rfl ?_
  refine E_bipush (v := 7) dX9_run_54 (by decide) ?_
  refine E_iadd dX9_run_56 ?_
  refine E_iconst (v := 1) dX9_run_57 (by decide) ?_
  refine E_iadd dX9_run_58 ?_
  refine E_iald h dX9_run_59 (fun h => ?_)
  refine E_oI h (fun v15 h => ?_)
  refine E_ic_ge (tgt := 85) h dX9_run_60 (by decide) (fun h => ?_) (fun h => ?_)
  · refine Eg.pick [0, 1] rfl ?_
    exact pX9_run_85 _ _ _ h
  · refine E_aload_n dX9_run_63 rfl rfl ?_
    refine E_iload_n dX9_run_64 rfl rfl ?_
    refine E_bipush (v := 7) dX9_run_65 (by decide) ?_
    refine E_iadd dX9_run_67 ?_
    refine F_Vi h (fun a m e => tX9_sumOf e) dX9_run_68 hm_X9_sumOf hv_X9_sumOf ln_X9_515 rfl rfl (Nat.le_of_ble_eq_true rfl) (Nat.le_of_ble_eq_true rfl) (kc' := 0) (ks' := 0) rfl rfl (fun v33 u34 h => ?_)
    refine E_istore_n (l' := [(2, .int v33), (0, .ref a0), (1, .int x1)]) dX9_run_71 rfl (Nat.le_of_ble_eq_true rfl) rfl ?_
    refine E_aload_n dX9_run_72 rfl rfl ?_
    refine E_getI h dX9_run_73 cf9 lk_X9_506 (by decide) (fun _ _ _ => rfl) (fun h => ?_)
    refine E_oI h (fun v35 h => ?_)
    refine E_if_ne (tgt := 83) h dX9_run_76 (by decide) (fun h => ?_) (fun h => ?_)
    · refine E_iconst (v := 0) dX9_run_83 (by decide) ?_
      exact E_iret h dX9_run_84 rfl
    · refine E_iload_n dX9_run_79 rfl rfl ?_
      refine E_if_ne (tgt := 85) h dX9_run_80 (by decide) (fun h => ?_) (fun h => ?_)
      · refine Eg.pick [1, 2] rfl ?_
        exact pX9_run_85 _ _ _ h
      · refine E_iconst (v := 0) dX9_run_83 (by decide) ?_
        exact E_iret h dX9_run_84 rfl
def bX9_giveBack_35 (k35 : Mm → Nat → Int32 → Int32 → Option (Unit × Mm)) (u : Mm) (a0 : Nat) (x1 : Int32) (x2 : Int32) : Option (Unit × Mm) := (if (16 : Int32) ≤ x2 then oK u a0 9 54 (oU (wI u a0 (upd (mI u a0) 8 x1)) (fun u2 => some ((), u2))) else oK u a0 9 54 (oNn (mR u a0 7) (fun e3 => oK u a0 9 54 (oNn (mR u a0 10) (fun e4 => oA u e4 10 x2 (oI (mI u e4 (Int32.toNatClampNeg x2)) (fun v5 => oA u e3 10 x2 (oU (wI u e3 (upd (mI u e3) (Int32.toNatClampNeg x2) v5)) (fun u6 => k35 u6 a0 x1 (x2 + 1))))))))))
set_option maxRecDepth 100000 in
set_option maxHeartbeats 4000000 in
theorem pX9_giveBack_35 {r : Unit} {u' : Mm} {k35 : Mm → Nat → Int32 → Int32 → Option (Unit × Mm)} (hk35 : ∀ (u : Mm) (a0 : Nat) (x1 : Int32) (x2 : Int32), k35 u a0 x1 x2 = some (r, u') → Eg MX9_giveBack 1 0 0 (none, u') 35 [(0, .ref a0), (1, .int x1), (2, .int x2)] [] u) (u : Mm) (a0 : Nat) (x1 : Int32) (x2 : Int32) (h : bX9_giveBack_35 k35 u a0 x1 x2 = some (r, u')) : Eg MX9_giveBack 1 0 0 (none, u') 35 [(0, .ref a0), (1, .int x1), (2, .int x2)] [] u := by
  unfold bX9_giveBack_35 at h
  refine E_iload_n dX9_giveBack_35 rfl rfl ?_
  refine E_bipush (v := 16) dX9_giveBack_36 (by decide) ?_
  refine E_ic_ge (tgt := 59) h dX9_giveBack_38 (by decide) (fun h => ?_) (fun h => ?_)
  · refine E_aload_n dX9_giveBack_59 rfl rfl ?_
    refine E_iload_n dX9_giveBack_60 rfl rfl ?_
    refine E_putI h dX9_giveBack_61 cf9 lk_X9_140 (by decide) (Or.inl rfl) rfl (fun h => ?_)
    refine E_oU h (fun u2 h => ?_)
    exact E_vret h dX9_giveBack_64 rfl
  · refine E_aload_n dX9_giveBack_41 rfl rfl ?_
    refine E_getA h dX9_giveBack_42 cf9 lk_X9_26 (by decide) (fun _ _ _ => rfl) (fun e3 h => ?_)
    refine E_iload_n dX9_giveBack_45 rfl rfl ?_
    refine E_aload_n dX9_giveBack_46 rfl rfl ?_
    refine E_getA h dX9_giveBack_47 cf9 lk_X9_32 (by decide) (fun _ _ _ => rfl) (fun e4 h => ?_)
    refine E_iload_n dX9_giveBack_50 rfl rfl ?_
    refine E_iald h dX9_giveBack_51 (fun h => ?_)
    refine E_oI h (fun v5 h => ?_)
    refine E_iast h dX9_giveBack_52 (fun h => ?_)
    refine E_oU h (fun u6 h => ?_)
    refine E_iinc (j := 2) (v := x2 + 1) (l' := [(2, .int (x2 + 1)), (0, .ref a0), (1, .int x1)]) dX9_giveBack_53 rfl (addI (by decide)) (Nat.le_of_ble_eq_true rfl) rfl ?_
    refine E_goto (tgt := 35) dX9_giveBack_56 (by decide) ?_
    refine Eg.pick [1, 2, 0] rfl ?_
    exact hk35 _ _ _ _ h
def rX9_giveBack_35 : Nat → Mm → Nat → Int32 → Int32 → Option (Unit × Mm)
  | 0, _, _, _, _ => none
  | n + 1, u, a0, x1, x2 => bX9_giveBack_35 (rX9_giveBack_35 n) u a0 x1 x2
theorem prX9_giveBack_35 {r : Unit} {u' : Mm} : ∀ (n : Nat) (u : Mm) (a0 : Nat) (x1 : Int32) (x2 : Int32), rX9_giveBack_35 n u a0 x1 x2 = some (r, u') → Eg MX9_giveBack 1 0 0 (none, u') 35 [(0, .ref a0), (1, .int x1), (2, .int x2)] [] u
  | 0, _, _, _, _, h => by cases h
  | n + 1, u, a0, x1, x2, h => pX9_giveBack_35 (prX9_giveBack_35 n) u a0 x1 x2 h
def bX9_giveBack_8 (k8 : Mm → Nat → Int32 → Int32 → Option (Unit × Mm)) (u : Mm) (a0 : Nat) (x1 : Int32) (x2 : Int32) : Option (Unit × Mm) := (if (496 : Int32) ≤ x2 then rX9_giveBack_35 hwF u a0 x1 0 else oK u a0 9 54 (oNn (mR u a0 6) (fun e7 => oK u a0 9 54 (oNn (mR u a0 9) (fun e8 => oA u e8 10 x2 (oI (mI u e8 (Int32.toNatClampNeg x2)) (fun v9 => oA u e7 10 x2 (oU (wI u e7 (upd (mI u e7) (Int32.toNatClampNeg x2) v9)) (fun u10 => k8 u10 a0 x1 (x2 + 1))))))))))
set_option maxRecDepth 100000 in
set_option maxHeartbeats 4000000 in
theorem pX9_giveBack_8 {r : Unit} {u' : Mm} {k8 : Mm → Nat → Int32 → Int32 → Option (Unit × Mm)} (hk8 : ∀ (u : Mm) (a0 : Nat) (x1 : Int32) (x2 : Int32), k8 u a0 x1 x2 = some (r, u') → Eg MX9_giveBack 1 0 0 (none, u') 8 [(0, .ref a0), (1, .int x1), (2, .int x2)] [] u) (u : Mm) (a0 : Nat) (x1 : Int32) (x2 : Int32) (h : bX9_giveBack_8 k8 u a0 x1 x2 = some (r, u')) : Eg MX9_giveBack 1 0 0 (none, u') 8 [(0, .ref a0), (1, .int x1), (2, .int x2)] [] u := by
  unfold bX9_giveBack_8 at h
  refine E_iload_n dX9_giveBack_8 rfl rfl ?_
  refine E_sipush (v := 496) dX9_giveBack_9 (by decide) ?_
  refine E_ic_ge (tgt := 33) h dX9_giveBack_12 (by decide) (fun h => ?_) (fun h => ?_)
  · refine E_iconst (v := 0) dX9_giveBack_33 (by decide) ?_
    refine E_istore_n (l' := [(2, .int 0), (0, .ref a0), (1, .int x1)]) dX9_giveBack_34 rfl (Nat.le_of_ble_eq_true rfl) rfl ?_
    refine Eg.pick [1, 2, 0] rfl ?_
    exact prX9_giveBack_35 _ _ _ _ _ h
  · refine E_aload_n dX9_giveBack_15 rfl rfl ?_
    refine E_getA h dX9_giveBack_16 cf9 lk_X9_23 (by decide) (fun _ _ _ => rfl) (fun e7 h => ?_)
    refine E_iload_n dX9_giveBack_19 rfl rfl ?_
    refine E_aload_n dX9_giveBack_20 rfl rfl ?_
    refine E_getA h dX9_giveBack_21 cf9 lk_X9_29 (by decide) (fun _ _ _ => rfl) (fun e8 h => ?_)
    refine E_iload_n dX9_giveBack_24 rfl rfl ?_
    refine E_iald h dX9_giveBack_25 (fun h => ?_)
    refine E_oI h (fun v9 h => ?_)
    refine E_iast h dX9_giveBack_26 (fun h => ?_)
    refine E_oU h (fun u10 h => ?_)
    refine E_iinc (j := 2) (v := x2 + 1) (l' := [(2, .int (x2 + 1)), (0, .ref a0), (1, .int x1)]) dX9_giveBack_27 rfl (addI (by decide)) (Nat.le_of_ble_eq_true rfl) rfl ?_
    refine E_goto (tgt := 8) dX9_giveBack_30 (by decide) ?_
    refine Eg.pick [1, 2, 0] rfl ?_
    exact hk8 _ _ _ _ h
def rX9_giveBack_8 : Nat → Mm → Nat → Int32 → Int32 → Option (Unit × Mm)
  | 0, _, _, _, _ => none
  | n + 1, u, a0, x1, x2 => bX9_giveBack_8 (rX9_giveBack_8 n) u a0 x1 x2
theorem prX9_giveBack_8 {r : Unit} {u' : Mm} : ∀ (n : Nat) (u : Mm) (a0 : Nat) (x1 : Int32) (x2 : Int32), rX9_giveBack_8 n u a0 x1 x2 = some (r, u') → Eg MX9_giveBack 1 0 0 (none, u') 8 [(0, .ref a0), (1, .int x1), (2, .int x2)] [] u
  | 0, _, _, _, _, h => by cases h
  | n + 1, u, a0, x1, x2, h => pX9_giveBack_8 (prX9_giveBack_8 n) u a0 x1 x2 h
def fX9_giveBack (u : Mm) (a0 : Nat) (x1 : Int32) : Option (Unit × Mm) := oR u a0 9 (oB (fX9_putBack u a0 17) (fun _ u1 => rX9_giveBack_8 hwF u1 a0 x1 0))
set_option maxRecDepth 100000 in
set_option maxHeartbeats 4000000 in
theorem tX9_giveBack {u : Mm} {a0 : Nat} {x1 : Int32} {r : Unit} {u' : Mm} (h : fX9_giveBack u a0 x1 = some (r, u')) : Ev 1 MX9_giveBack 0 0 [.ref a0, .int x1] u (none, u') := by
  refine Ev.of (by decide +kernel) (Nat.le_of_ble_eq_true rfl) (show Eg MX9_giveBack 1 0 0 (none, u') 0 [(0, .ref a0), (1, .int x1)] [] u from ?_)
  unfold fX9_giveBack at h
  refine E_aload_n dX9_giveBack_0 rfl rfl ?_
  refine E_bipush (v := 17) dX9_giveBack_1 (by decide) ?_
  refine F_Vv h (fun m e => tX9_putBack e) dX9_giveBack_3 hm_X9_putBack hv_X9_putBack ln_X9_151 rfl rfl (Nat.le_of_ble_eq_true rfl) (Nat.le_of_ble_eq_true rfl) (kc' := 0) (ks' := 0) rfl rfl (fun u1 h => ?_)
  refine E_iconst (v := 0) dX9_giveBack_6 (by decide) ?_
  refine E_istore_n (l' := [(2, .int 0), (0, .ref a0), (1, .int x1)]) dX9_giveBack_7 rfl (Nat.le_of_ble_eq_true rfl) rfl ?_
  refine Eg.pick [1, 2, 0] rfl ?_
  exact prX9_giveBack_8 _ _ _ _ _ h
def bX9_orders_150 (k140 : Mm → Nat → Int32 → Int32 → Option (Int32 × Mm)) (k150 : Mm → Nat → Int32 → Int32 → Int32 → Option (Int32 × Mm)) (u : Mm) (a0 : Nat) (x1 : Int32) (x2 : Int32) (x3 : Int32) : Option (Int32 × Mm) := oK u a0 9 54 (oNn (mR u a0 46) (fun e16 => oA u e16 10 (((10 : Int32) * x2) + 9) (oI (mI u e16 (Int32.toNatClampNeg (((10 : Int32) * x2) + 9))) (fun v17 => (if (v17 : Int32) ≤ x3 then k140 u a0 x1 (x2 + 1) else oR u a0 9 (oB (fX9_run u a0 ((10 : Int32) * x2)) (fun v18 u19 => (if 0 ≤ (v18 : Int32) then k150 u19 a0 x1 x2 (x3 + 1) else oR u19 a0 9 (oB (fX9_giveBack u19 a0 x1) (fun _ u20 => oK u20 a0 9 54 (oU (wI u20 a0 (upd (mI u20 a0) 49 x2)) (fun u21 => oR u21 a0 9 (oB (fX9_answer u21 a0 ((-3))) (fun v22 u23 => some (v22, u23)))))))))))))))
set_option maxRecDepth 100000 in
set_option maxHeartbeats 4000000 in
theorem pX9_orders_150 {r : Int32} {u' : Mm} {k140 : Mm → Nat → Int32 → Int32 → Option (Int32 × Mm)} (hk140 : ∀ (u : Mm) (a0 : Nat) (x1 : Int32) (x2 : Int32), k140 u a0 x1 x2 = some (r, u') → Eg MX9_orders 10 0 0 (some (.int r), u') 140 [(0, .ref a0), (1, .int x1), (2, .int x2)] [] u) {k150 : Mm → Nat → Int32 → Int32 → Int32 → Option (Int32 × Mm)} (hk150 : ∀ (u : Mm) (a0 : Nat) (x1 : Int32) (x2 : Int32) (x3 : Int32), k150 u a0 x1 x2 x3 = some (r, u') → Eg MX9_orders 10 0 0 (some (.int r), u') 150 [(0, .ref a0), (1, .int x1), (2, .int x2), (3, .int x3)] [] u) (u : Mm) (a0 : Nat) (x1 : Int32) (x2 : Int32) (x3 : Int32) (h : bX9_orders_150 k140 k150 u a0 x1 x2 x3 = some (r, u')) : Eg MX9_orders 10 0 0 (some (.int r), u') 150 [(0, .ref a0), (1, .int x1), (2, .int x2), (3, .int x3)] [] u := by
  unfold bX9_orders_150 at h
  refine E_iload_n dX9_orders_150 rfl rfl ?_
  refine E_aload_n dX9_orders_151 rfl rfl ?_
  refine E_getA h dX9_orders_152 cf9 lk_X9_125 (by decide) (fun _ _ _ => rfl) (fun e16 h => ?_)
  refine E_bipush (v := 10) dX9_orders_155 (by decide) ?_
  refine E_iload_n dX9_orders_157 rfl rfl ?_
  refine E_imul dX9_orders_158 ?_
  refine E_bipush (v := 9) dX9_orders_159 (by decide) ?_
  refine E_iadd dX9_orders_161 ?_
  refine E_iald h dX9_orders_162 (fun h => ?_)
  refine E_oI h (fun v17 h => ?_)
  refine E_ic_ge (tgt := 200) h dX9_orders_163 (by decide) (fun h => ?_) (fun h => ?_)
  · refine E_iinc (j := 2) (v := x2 + 1) (l' := [(2, .int (x2 + 1)), (0, .ref a0), (1, .int x1), (3, .int x3)]) dX9_orders_200 rfl (addI (by decide)) (Nat.le_of_ble_eq_true rfl) rfl ?_
    refine E_goto (tgt := 140) dX9_orders_203 (by decide) ?_
    refine Eg.pick [1, 2, 0] rfl ?_
    exact hk140 _ _ _ _ h
  · refine E_aload_n dX9_orders_166 rfl rfl ?_
    refine E_bipush (v := 10) dX9_orders_167 (by decide) ?_
    refine E_iload_n dX9_orders_169 rfl rfl ?_
    refine E_imul dX9_orders_170 ?_
    refine F_Vi h (fun a m e => tX9_run e) dX9_orders_171 hm_X9_run hv_X9_run ln_X9_524 rfl rfl (Nat.le_of_ble_eq_true rfl) (Nat.le_of_ble_eq_true rfl) (kc' := 0) (ks' := 0) rfl rfl (fun v18 u19 h => ?_)
    refine E_if_ge (tgt := 194) h dX9_orders_174 (by decide) (fun h => ?_) (fun h => ?_)
    · refine E_iinc (j := 3) (v := x3 + 1) (l' := [(3, .int (x3 + 1)), (0, .ref a0), (1, .int x1), (2, .int x2)]) dX9_orders_194 rfl (addI (by decide)) (Nat.le_of_ble_eq_true rfl) rfl ?_
      refine E_goto (tgt := 150) dX9_orders_197 (by decide) ?_
      refine Eg.pick [1, 2, 3, 0] rfl ?_
      exact hk150 _ _ _ _ _ h
    · refine E_aload_n dX9_orders_177 rfl rfl ?_
      refine E_iload_n dX9_orders_178 rfl rfl ?_
      refine F_Vv h (fun m e => tX9_giveBack e) dX9_orders_179 hm_X9_giveBack hv_X9_giveBack ln_X9_527 rfl rfl (Nat.le_of_ble_eq_true rfl) (Nat.le_of_ble_eq_true rfl) (kc' := 0) (ks' := 0) rfl rfl (fun u20 h => ?_)
      refine E_aload_n dX9_orders_182 rfl rfl ?_
      refine E_iload_n dX9_orders_183 rfl rfl ?_
      refine E_putI h dX9_orders_184 cf9 lk_X9_128 (by decide) (Or.inl rfl) rfl (fun h => ?_)
      refine E_oU h (fun u21 h => ?_)
      refine E_aload_n dX9_orders_187 rfl rfl ?_
      refine E_bipush (v := (-3)) dX9_orders_188 (by decide) ?_
      refine F_Vi h (fun a m e => tX9_answer e) dX9_orders_190 hm_X9_answer hv_X9_answer ln_X9_143 rfl rfl (Nat.le_of_ble_eq_true rfl) (Nat.le_of_ble_eq_true rfl) (kc' := 0) (ks' := 0) rfl rfl (fun v22 u23 h => ?_)
      exact E_iret h dX9_orders_193 rfl
def rX9_orders_150 (k140 : Mm → Nat → Int32 → Int32 → Option (Int32 × Mm)) : Nat → Mm → Nat → Int32 → Int32 → Int32 → Option (Int32 × Mm)
  | 0, _, _, _, _, _ => none
  | n + 1, u, a0, x1, x2, x3 => bX9_orders_150 k140 (rX9_orders_150 k140 n) u a0 x1 x2 x3
theorem prX9_orders_150 {r : Int32} {u' : Mm} {k140 : Mm → Nat → Int32 → Int32 → Option (Int32 × Mm)} (hk140 : ∀ (u : Mm) (a0 : Nat) (x1 : Int32) (x2 : Int32), k140 u a0 x1 x2 = some (r, u') → Eg MX9_orders 10 0 0 (some (.int r), u') 140 [(0, .ref a0), (1, .int x1), (2, .int x2)] [] u) : ∀ (n : Nat) (u : Mm) (a0 : Nat) (x1 : Int32) (x2 : Int32) (x3 : Int32), rX9_orders_150 k140 n u a0 x1 x2 x3 = some (r, u') → Eg MX9_orders 10 0 0 (some (.int r), u') 150 [(0, .ref a0), (1, .int x1), (2, .int x2), (3, .int x3)] [] u
  | 0, _, _, _, _, _, h => by cases h
  | n + 1, u, a0, x1, x2, x3, h => pX9_orders_150 hk140 (prX9_orders_150 hk140 n) u a0 x1 x2 x3 h
def bX9_orders_140 (k140 : Mm → Nat → Int32 → Int32 → Option (Int32 × Mm)) (u : Mm) (a0 : Nat) (x1 : Int32) (x2 : Int32) : Option (Int32 × Mm) := oK u a0 9 54 (oI (mI u a0 21) (fun v12 => (if (v12 : Int32) ≤ x2 then oK u a0 9 54 (oI (mI u a0 47) (fun v13 => oR u a0 9 (oB (fX9_answer u a0 v13) (fun v14 u15 => some (v14, u15))))) else rX9_orders_150 k140 hwF u a0 x1 x2 0)))
set_option maxRecDepth 100000 in
set_option maxHeartbeats 4000000 in
theorem pX9_orders_140 {r : Int32} {u' : Mm} {k140 : Mm → Nat → Int32 → Int32 → Option (Int32 × Mm)} (hk140 : ∀ (u : Mm) (a0 : Nat) (x1 : Int32) (x2 : Int32), k140 u a0 x1 x2 = some (r, u') → Eg MX9_orders 10 0 0 (some (.int r), u') 140 [(0, .ref a0), (1, .int x1), (2, .int x2)] [] u) (u : Mm) (a0 : Nat) (x1 : Int32) (x2 : Int32) (h : bX9_orders_140 k140 u a0 x1 x2 = some (r, u')) : Eg MX9_orders 10 0 0 (some (.int r), u') 140 [(0, .ref a0), (1, .int x1), (2, .int x2)] [] u := by
  unfold bX9_orders_140 at h
  refine E_iload_n dX9_orders_140 rfl rfl ?_
  refine E_aload_n dX9_orders_141 rfl rfl ?_
  refine E_getI h dX9_orders_142 cf9 lk_X9_348 (by decide) (fun _ _ _ => rfl) (fun h => ?_)
  refine E_oI h (fun v12 h => ?_)
  refine E_ic_ge (tgt := 206) h dX9_orders_145 (by decide) (fun h => ?_) (fun h => ?_)
  · refine E_aload_n dX9_orders_206 rfl rfl ?_
    refine E_aload_n dX9_orders_207 rfl rfl ?_
    refine E_getI h dX9_orders_208 cf9 lk_X9_509 (by decide) (fun _ _ _ => rfl) (fun h => ?_)
    refine E_oI h (fun v13 h => ?_)
    refine F_Vi h (fun a m e => tX9_answer e) dX9_orders_211 hm_X9_answer hv_X9_answer ln_X9_143 rfl rfl (Nat.le_of_ble_eq_true rfl) (Nat.le_of_ble_eq_true rfl) (kc' := 0) (ks' := 0) rfl rfl (fun v14 u15 h => ?_)
    exact E_iret h dX9_orders_214 rfl
  · refine E_iconst (v := 0) dX9_orders_148 (by decide) ?_
    refine E_istore_n (l' := [(3, .int 0), (0, .ref a0), (1, .int x1), (2, .int x2)]) dX9_orders_149 rfl (Nat.le_of_ble_eq_true rfl) rfl ?_
    refine Eg.pick [1, 2, 3, 0] rfl ?_
    exact prX9_orders_150 hk140 _ _ _ _ _ _ h
def rX9_orders_140 : Nat → Mm → Nat → Int32 → Int32 → Option (Int32 × Mm)
  | 0, _, _, _, _ => none
  | n + 1, u, a0, x1, x2 => bX9_orders_140 (rX9_orders_140 n) u a0 x1 x2
theorem prX9_orders_140 {r : Int32} {u' : Mm} : ∀ (n : Nat) (u : Mm) (a0 : Nat) (x1 : Int32) (x2 : Int32), rX9_orders_140 n u a0 x1 x2 = some (r, u') → Eg MX9_orders 10 0 0 (some (.int r), u') 140 [(0, .ref a0), (1, .int x1), (2, .int x2)] [] u
  | 0, _, _, _, _, h => by cases h
  | n + 1, u, a0, x1, x2, h => pX9_orders_140 (prX9_orders_140 n) u a0 x1 x2 h
def bX9_orders_104 (k104 : Mm → Nat → Int32 → Int32 → Option (Int32 × Mm)) (u : Mm) (a0 : Nat) (x1 : Int32) (x2 : Int32) : Option (Int32 × Mm) := (if (16 : Int32) ≤ x2 then oK u a0 9 54 (oU (wI u a0 (upd (mI u a0) 47 0)) (fun u10 => oK u10 a0 9 54 (oU (wI u10 a0 (upd (mI u10 a0) 48 ((-1)))) (fun u11 => rX9_orders_140 hwF u11 a0 x1 0)))) else oK u a0 9 54 (oNn (mR u a0 10) (fun e24 => oK u a0 9 54 (oNn (mR u a0 7) (fun e25 => oA u e25 10 x2 (oI (mI u e25 (Int32.toNatClampNeg x2)) (fun v26 => oA u e24 10 x2 (oU (wI u e24 (upd (mI u e24) (Int32.toNatClampNeg x2) v26)) (fun u27 => k104 u27 a0 x1 (x2 + 1))))))))))
set_option maxRecDepth 100000 in
set_option maxHeartbeats 4000000 in
theorem pX9_orders_104 {r : Int32} {u' : Mm} {k104 : Mm → Nat → Int32 → Int32 → Option (Int32 × Mm)} (hk104 : ∀ (u : Mm) (a0 : Nat) (x1 : Int32) (x2 : Int32), k104 u a0 x1 x2 = some (r, u') → Eg MX9_orders 10 0 0 (some (.int r), u') 104 [(0, .ref a0), (1, .int x1), (2, .int x2)] [] u) (u : Mm) (a0 : Nat) (x1 : Int32) (x2 : Int32) (h : bX9_orders_104 k104 u a0 x1 x2 = some (r, u')) : Eg MX9_orders 10 0 0 (some (.int r), u') 104 [(0, .ref a0), (1, .int x1), (2, .int x2)] [] u := by
  unfold bX9_orders_104 at h
  refine E_iload_n dX9_orders_104 rfl rfl ?_
  refine E_bipush (v := 16) dX9_orders_105 (by decide) ?_
  refine E_ic_ge (tgt := 128) h dX9_orders_107 (by decide) (fun h => ?_) (fun h => ?_)
  · refine E_aload_n dX9_orders_128 rfl rfl ?_
    refine E_iconst (v := 0) dX9_orders_129 (by decide) ?_
    refine E_putI h dX9_orders_130 cf9 lk_X9_509 (by decide) (Or.inl rfl) rfl (fun h => ?_)
    refine E_oU h (fun u10 h => ?_)
    refine E_aload_n dX9_orders_133 rfl rfl ?_
    refine E_iconst (v := (-1)) dX9_orders_134 (by decide) ?_
    refine E_putI h dX9_orders_135 cf9 lk_X9_512 (by decide) (Or.inl rfl) rfl (fun h => ?_)
    refine E_oU h (fun u11 h => ?_)
    refine E_iconst (v := 0) dX9_orders_138 (by decide) ?_
    refine E_istore_n (l' := [(2, .int 0), (0, .ref a0), (1, .int x1)]) dX9_orders_139 rfl (Nat.le_of_ble_eq_true rfl) rfl ?_
    refine Eg.pick [1, 2, 0] rfl ?_
    exact prX9_orders_140 _ _ _ _ _ h
  · refine E_aload_n dX9_orders_110 rfl rfl ?_
    refine E_getA h dX9_orders_111 cf9 lk_X9_32 (by decide) (fun _ _ _ => rfl) (fun e24 h => ?_)
    refine E_iload_n dX9_orders_114 rfl rfl ?_
    refine E_aload_n dX9_orders_115 rfl rfl ?_
    refine E_getA h dX9_orders_116 cf9 lk_X9_26 (by decide) (fun _ _ _ => rfl) (fun e25 h => ?_)
    refine E_iload_n dX9_orders_119 rfl rfl ?_
    refine E_iald h dX9_orders_120 (fun h => ?_)
    refine E_oI h (fun v26 h => ?_)
    refine E_iast h dX9_orders_121 (fun h => ?_)
    refine E_oU h (fun u27 h => ?_)
    refine E_iinc (j := 2) (v := x2 + 1) (l' := [(2, .int (x2 + 1)), (0, .ref a0), (1, .int x1)]) dX9_orders_122 rfl (addI (by decide)) (Nat.le_of_ble_eq_true rfl) rfl ?_
    refine E_goto (tgt := 104) dX9_orders_125 (by decide) ?_
    refine Eg.pick [1, 2, 0] rfl ?_
    exact hk104 _ _ _ _ h
def rX9_orders_104 : Nat → Mm → Nat → Int32 → Int32 → Option (Int32 × Mm)
  | 0, _, _, _, _ => none
  | n + 1, u, a0, x1, x2 => bX9_orders_104 (rX9_orders_104 n) u a0 x1 x2
theorem prX9_orders_104 {r : Int32} {u' : Mm} : ∀ (n : Nat) (u : Mm) (a0 : Nat) (x1 : Int32) (x2 : Int32), rX9_orders_104 n u a0 x1 x2 = some (r, u') → Eg MX9_orders 10 0 0 (some (.int r), u') 104 [(0, .ref a0), (1, .int x1), (2, .int x2)] [] u
  | 0, _, _, _, _, h => by cases h
  | n + 1, u, a0, x1, x2, h => pX9_orders_104 (prX9_orders_104 n) u a0 x1 x2 h
def bX9_orders_77 (k77 : Mm → Nat → Int32 → Int32 → Option (Int32 × Mm)) (u : Mm) (a0 : Nat) (x1 : Int32) (x2 : Int32) : Option (Int32 × Mm) := (if (496 : Int32) ≤ x2 then rX9_orders_104 hwF u a0 x1 0 else oK u a0 9 54 (oNn (mR u a0 9) (fun e28 => oK u a0 9 54 (oNn (mR u a0 6) (fun e29 => oA u e29 10 x2 (oI (mI u e29 (Int32.toNatClampNeg x2)) (fun v30 => oA u e28 10 x2 (oU (wI u e28 (upd (mI u e28) (Int32.toNatClampNeg x2) v30)) (fun u31 => k77 u31 a0 x1 (x2 + 1))))))))))
set_option maxRecDepth 100000 in
set_option maxHeartbeats 4000000 in
theorem pX9_orders_77 {r : Int32} {u' : Mm} {k77 : Mm → Nat → Int32 → Int32 → Option (Int32 × Mm)} (hk77 : ∀ (u : Mm) (a0 : Nat) (x1 : Int32) (x2 : Int32), k77 u a0 x1 x2 = some (r, u') → Eg MX9_orders 10 0 0 (some (.int r), u') 77 [(0, .ref a0), (1, .int x1), (2, .int x2)] [] u) (u : Mm) (a0 : Nat) (x1 : Int32) (x2 : Int32) (h : bX9_orders_77 k77 u a0 x1 x2 = some (r, u')) : Eg MX9_orders 10 0 0 (some (.int r), u') 77 [(0, .ref a0), (1, .int x1), (2, .int x2)] [] u := by
  unfold bX9_orders_77 at h
  refine E_iload_n dX9_orders_77 rfl rfl ?_
  refine E_sipush (v := 496) dX9_orders_78 (by decide) ?_
  refine E_ic_ge (tgt := 102) h dX9_orders_81 (by decide) (fun h => ?_) (fun h => ?_)
  · refine E_iconst (v := 0) dX9_orders_102 (by decide) ?_
    refine E_istore_n (l' := [(2, .int 0), (0, .ref a0), (1, .int x1)]) dX9_orders_103 rfl (Nat.le_of_ble_eq_true rfl) rfl ?_
    refine Eg.pick [1, 2, 0] rfl ?_
    exact prX9_orders_104 _ _ _ _ _ h
  · refine E_aload_n dX9_orders_84 rfl rfl ?_
    refine E_getA h dX9_orders_85 cf9 lk_X9_29 (by decide) (fun _ _ _ => rfl) (fun e28 h => ?_)
    refine E_iload_n dX9_orders_88 rfl rfl ?_
    refine E_aload_n dX9_orders_89 rfl rfl ?_
    refine E_getA h dX9_orders_90 cf9 lk_X9_23 (by decide) (fun _ _ _ => rfl) (fun e29 h => ?_)
    refine E_iload_n dX9_orders_93 rfl rfl ?_
    refine E_iald h dX9_orders_94 (fun h => ?_)
    refine E_oI h (fun v30 h => ?_)
    refine E_iast h dX9_orders_95 (fun h => ?_)
    refine E_oU h (fun u31 h => ?_)
    refine E_iinc (j := 2) (v := x2 + 1) (l' := [(2, .int (x2 + 1)), (0, .ref a0), (1, .int x1)]) dX9_orders_96 rfl (addI (by decide)) (Nat.le_of_ble_eq_true rfl) rfl ?_
    refine E_goto (tgt := 77) dX9_orders_99 (by decide) ?_
    refine Eg.pick [1, 2, 0] rfl ?_
    exact hk77 _ _ _ _ h
def rX9_orders_77 : Nat → Mm → Nat → Int32 → Int32 → Option (Int32 × Mm)
  | 0, _, _, _, _ => none
  | n + 1, u, a0, x1, x2 => bX9_orders_77 (rX9_orders_77 n) u a0 x1 x2
theorem prX9_orders_77 {r : Int32} {u' : Mm} : ∀ (n : Nat) (u : Mm) (a0 : Nat) (x1 : Int32) (x2 : Int32), rX9_orders_77 n u a0 x1 x2 = some (r, u') → Eg MX9_orders 10 0 0 (some (.int r), u') 77 [(0, .ref a0), (1, .int x1), (2, .int x2)] [] u
  | 0, _, _, _, _, h => by cases h
  | n + 1, u, a0, x1, x2, h => pX9_orders_77 (prX9_orders_77 n) u a0 x1 x2 h
def bX9_orders_46 (u : Mm) (a0 : Nat) : Option (Int32 × Mm) := oR u a0 9 (oB (fX9_endText u a0) (fun _ u6 => oK u6 a0 9 54 (oI (mI u6 a0 19) (fun v7 => (if (v7 : Int32) = 0 then oR u6 a0 9 (oB (fX9_keepAll u6 a0 17) (fun _ u8 => oK u8 a0 9 54 (oI (mI u8 a0 8) (fun v9 => rX9_orders_77 hwF u8 a0 v9 0)))) else oR u6 a0 9 (oB (fX9_answer u6 a0 ((-6))) (fun v32 u33 => some (v32, u33))))))))
set_option maxRecDepth 100000 in
set_option maxHeartbeats 4000000 in
theorem pX9_orders_46 {r : Int32} {u' : Mm} (u : Mm) (a0 : Nat) (h : bX9_orders_46 u a0 = some (r, u')) : Eg MX9_orders 10 0 0 (some (.int r), u') 46 [(0, .ref a0)] [] u := by
  unfold bX9_orders_46 at h
  refine E_aload_n dX9_orders_46 rfl rfl ?_
  refine F_Vv h (fun m e => tX9_endText e) dX9_orders_47 hm_X9_endText hv_X9_endText ln_X9_362 rfl rfl (Nat.le_of_ble_eq_true rfl) (Nat.le_of_ble_eq_true rfl) (kc' := 0) (ks' := 0) rfl rfl (fun u6 h => ?_)
  refine E_aload_n dX9_orders_50 rfl rfl ?_
  refine E_getI h dX9_orders_51 cf9 lk_X9_223 (by decide) (fun _ _ _ => rfl) (fun h => ?_)
  refine E_oI h (fun v7 h => ?_)
  refine E_if_eq (tgt := 64) h dX9_orders_54 (by decide) (fun h => ?_) (fun h => ?_)
  · refine E_aload_n dX9_orders_64 rfl rfl ?_
    refine E_bipush (v := 17) dX9_orders_65 (by decide) ?_
    refine F_Vv h (fun m e => tX9_keepAll e) dX9_orders_67 hm_X9_keepAll hv_X9_keepAll ln_X9_147 rfl rfl (Nat.le_of_ble_eq_true rfl) (Nat.le_of_ble_eq_true rfl) (kc' := 0) (ks' := 0) rfl rfl (fun u8 h => ?_)
    refine E_aload_n dX9_orders_70 rfl rfl ?_
    refine E_getI h dX9_orders_71 cf9 lk_X9_140 (by decide) (fun _ _ _ => rfl) (fun h => ?_)
    refine E_oI h (fun v9 h => ?_)
    refine E_istore_n (l' := [(1, .int v9), (0, .ref a0)]) dX9_orders_74 rfl (Nat.le_of_ble_eq_true rfl) rfl ?_
    refine E_iconst (v := 0) dX9_orders_75 (by decide) ?_
    refine E_istore_n (l' := [(2, .int 0), (1, .int v9), (0, .ref a0)]) dX9_orders_76 rfl (Nat.le_of_ble_eq_true rfl) rfl ?_
    refine Eg.pick [2, 1, 0] rfl ?_
    exact prX9_orders_77 _ _ _ _ _ h
  · refine E_aload_n dX9_orders_57 rfl rfl ?_
    refine E_bipush (v := (-6)) dX9_orders_58 (by decide) ?_
    refine F_Vi h (fun a m e => tX9_answer e) dX9_orders_60 hm_X9_answer hv_X9_answer ln_X9_143 rfl rfl (Nat.le_of_ble_eq_true rfl) (Nat.le_of_ble_eq_true rfl) (kc' := 0) (ks' := 0) rfl rfl (fun v32 u33 h => ?_)
    exact E_iret h dX9_orders_63 rfl
def bX9_orders_19 (k19 : Mm → Nat → Option (Int32 × Mm)) (u : Mm) (a0 : Nat) : Option (Int32 × Mm) := oK u a0 9 54 (oI (mI u a0 19) (fun v5 => (if (v5 : Int32) = 0 then oR u a0 9 (oB (fX9_isSign u a0 59) (fun v34 u35 => (if (v34 : Int32) = 0 then bX9_orders_46 u35 a0 else oR u35 a0 9 (oB (fX9_next u35 a0) (fun _ u36 => oR u36 a0 9 (oB (fX9_readOrder u36 a0) (fun _ u37 => k19 u37 a0))))))) else bX9_orders_46 u a0)))
set_option maxRecDepth 100000 in
set_option maxHeartbeats 4000000 in
theorem pX9_orders_19 {r : Int32} {u' : Mm} {k19 : Mm → Nat → Option (Int32 × Mm)} (hk19 : ∀ (u : Mm) (a0 : Nat), k19 u a0 = some (r, u') → Eg MX9_orders 10 0 0 (some (.int r), u') 19 [(0, .ref a0)] [] u) (u : Mm) (a0 : Nat) (h : bX9_orders_19 k19 u a0 = some (r, u')) : Eg MX9_orders 10 0 0 (some (.int r), u') 19 [(0, .ref a0)] [] u := by
  unfold bX9_orders_19 at h
  refine E_aload_n dX9_orders_19 rfl rfl ?_
  refine E_getI h dX9_orders_20 cf9 lk_X9_223 (by decide) (fun _ _ _ => rfl) (fun h => ?_)
  refine E_oI h (fun v5 h => ?_)
  refine E_if_ne (tgt := 46) h dX9_orders_23 (by decide) (fun h => ?_) (fun h => ?_)
  · refine Eg.pick [0] rfl ?_
    exact pX9_orders_46 _ _ h
  · refine E_aload_n dX9_orders_26 rfl rfl ?_
    refine E_bipush (v := 59) dX9_orders_27 (by decide) ?_
    refine F_Vi h (fun a m e => tX9_isSign e) dX9_orders_29 hm_X9_isSign hv_X9_isSign ln_X9_290 rfl rfl (Nat.le_of_ble_eq_true rfl) (Nat.le_of_ble_eq_true rfl) (kc' := 0) (ks' := 0) rfl rfl (fun v34 u35 h => ?_)
    refine E_if_eq (tgt := 46) h dX9_orders_32 (by decide) (fun h => ?_) (fun h => ?_)
    · refine Eg.pick [0] rfl ?_
      exact pX9_orders_46 _ _ h
    · refine E_aload_n dX9_orders_35 rfl rfl ?_
      refine F_Vv h (fun m e => tX9_next e) dX9_orders_36 hm_X9_next hv_X9_next ln_X9_227 rfl rfl (Nat.le_of_ble_eq_true rfl) (Nat.le_of_ble_eq_true rfl) (kc' := 0) (ks' := 0) rfl rfl (fun u36 h => ?_)
      refine E_aload_n dX9_orders_39 rfl rfl ?_
      refine F_Vv h (fun m e => tX9_readOrder e) dX9_orders_40 hm_X9_readOrder hv_X9_readOrder ln_X9_521 rfl rfl (Nat.le_of_ble_eq_true rfl) (Nat.le_of_ble_eq_true rfl) (kc' := 0) (ks' := 0) rfl rfl (fun u37 h => ?_)
      refine E_goto (tgt := 19) dX9_orders_43 (by decide) ?_
      refine Eg.pick [0] rfl ?_
      exact hk19 _ _ h
def rX9_orders_19 : Nat → Mm → Nat → Option (Int32 × Mm)
  | 0, _, _ => none
  | n + 1, u, a0 => bX9_orders_19 (rX9_orders_19 n) u a0
theorem prX9_orders_19 {r : Int32} {u' : Mm} : ∀ (n : Nat) (u : Mm) (a0 : Nat), rX9_orders_19 n u a0 = some (r, u') → Eg MX9_orders 10 0 0 (some (.int r), u') 19 [(0, .ref a0)] [] u
  | 0, _, _, h => by cases h
  | n + 1, u, a0, h => pX9_orders_19 (prX9_orders_19 n) u a0 h
def fX9_orders (u : Mm) (a0 : Nat) : Option (Int32 × Mm) := oK u a0 9 54 (oU (wI u a0 (upd (mI u a0) 0 0)) (fun u1 => oK u1 a0 9 54 (oU (wI u1 a0 (upd (mI u1 a0) 49 ((-1)))) (fun u2 => oR u2 a0 9 (oB (fX9_beginText u2 a0 1) (fun _ u3 => oR u3 a0 9 (oB (fX9_readOrder u3 a0) (fun _ u4 => rX9_orders_19 hwF u4 a0))))))))
set_option maxRecDepth 100000 in
set_option maxHeartbeats 4000000 in
theorem tX9_orders {u : Mm} {a0 : Nat} {r : Int32} {u' : Mm} (h : fX9_orders u a0 = some (r, u')) : Ev 10 MX9_orders 0 0 [.ref a0] u (some (.int r), u') := by
  refine Ev.of (by decide +kernel) (Nat.le_of_ble_eq_true rfl) (show Eg MX9_orders 10 0 0 (some (.int r), u') 0 [(0, .ref a0)] [] u from ?_)
  unfold fX9_orders at h
  refine E_aload_n dX9_orders_0 rfl rfl ?_
  refine E_iconst (v := 0) dX9_orders_1 (by decide) ?_
  refine E_putI h dX9_orders_2 cf9 lk_X9_134 (by decide) (Or.inl rfl) rfl (fun h => ?_)
  refine E_oU h (fun u1 h => ?_)
  refine E_aload_n dX9_orders_5 rfl rfl ?_
  refine E_iconst (v := (-1)) dX9_orders_6 (by decide) ?_
  refine E_putI h dX9_orders_7 cf9 lk_X9_128 (by decide) (Or.inl rfl) rfl (fun h => ?_)
  refine E_oU h (fun u2 h => ?_)
  refine E_aload_n dX9_orders_10 rfl rfl ?_
  refine E_iconst (v := 1) dX9_orders_11 (by decide) ?_
  refine F_Vv h (fun m e => tX9_beginText e) dX9_orders_12 hm_X9_beginText hv_X9_beginText ln_X9_356 rfl rfl (Nat.le_of_ble_eq_true rfl) (Nat.le_of_ble_eq_true rfl) (kc' := 0) (ks' := 0) rfl rfl (fun u3 h => ?_)
  refine E_aload_n dX9_orders_15 rfl rfl ?_
  refine F_Vv h (fun m e => tX9_readOrder e) dX9_orders_16 hm_X9_readOrder hv_X9_readOrder ln_X9_521 rfl rfl (Nat.le_of_ble_eq_true rfl) (Nat.le_of_ble_eq_true rfl) (kc' := 0) (ks' := 0) rfl rfl (fun u4 h => ?_)
  refine Eg.pick [0] rfl ?_
  exact prX9_orders_19 _ _ _ h
