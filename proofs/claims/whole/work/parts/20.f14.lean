/-! ===== methods as functions, with their contracts (printed by program) ===== -/
def bX9_reckon_90 (u : Mm) (s0 : Int64) : Option (Int64 × Mm) := some (s0, u)
set_option maxRecDepth 100000 in
set_option maxHeartbeats 4000000 in
theorem pX9_reckon_90 {r : Int64} {u' : Mm} (u : Mm) (s0 : Int64) (h : bX9_reckon_90 u s0 = some (r, u')) : Eg MX9_reckon 0 0 0 (some (.long r), u') 90 [] [.long s0] u := by
  unfold bX9_reckon_90 at h
  exact E_lret h dX9_reckon_90 rfl
def bX9_reckon_72 (u : Mm) (a0 : Nat) (y2 : Int64) (y4 : Int64) (s0 : Int32) (s1 : Nat) : Option (Int64 × Mm) := oK u s1 9 54 (oZ s0 (oU (wI u s1 (upd (mI u s1) 38 s0)) (fun u1 => oK u1 a0 9 54 (oI (mI u1 a0 38) (fun v2 => (if (v2 : Int32) = 0 then (if (y4 : Int64) ≠ 0 then bX9_reckon_90 u1 (y2 / y4) else none) else bX9_reckon_90 u1 0))))))
set_option maxRecDepth 100000 in
set_option maxHeartbeats 4000000 in
theorem pX9_reckon_72 {r : Int64} {u' : Mm} (u : Mm) (a0 : Nat) (y2 : Int64) (y4 : Int64) (s0 : Int32) (s1 : Nat) (h : bX9_reckon_72 u a0 y2 y4 s0 s1 = some (r, u')) : Eg MX9_reckon 0 0 0 (some (.long r), u') 72 [(0, .ref a0), (2, .long y2), (4, .long y4)] [.int s0, .ref s1] u := by
  unfold bX9_reckon_72 at h
  refine E_putZ h dX9_reckon_72 cf9 lk_X9_368 (by decide) (Or.inl rfl) rfl (fun h => ?_)
  refine E_oU h (fun u1 h => ?_)
  refine E_aload_n dX9_reckon_75 rfl rfl ?_
  refine E_getI h dX9_reckon_76 cf9 lk_X9_368 (by decide) (fun _ _ _ => rfl) (fun h => ?_)
  refine E_oI h (fun v2 h => ?_)
  refine E_if_eq (tgt := 86) h dX9_reckon_79 (by decide) (fun h => ?_) (fun h => ?_)
  · refine E_lload_n dX9_reckon_86 rfl rfl ?_
    refine E_lload dX9_reckon_87 rfl ?_
    refine E_ldiv h dX9_reckon_89 (fun h => ?_)
    refine Eg.pick [] rfl ?_
    exact pX9_reckon_90 _ _ h
  · refine E_lconst (v := 0) dX9_reckon_82 (by decide) ?_
    refine E_goto (tgt := 90) dX9_reckon_83 (by decide) ?_
    refine Eg.pick [] rfl ?_
    exact pX9_reckon_90 _ _ h
def bX9_reckon_122 (u : Mm) (s0 : Int64) : Option (Int64 × Mm) := some (s0, u)
set_option maxRecDepth 100000 in
set_option maxHeartbeats 4000000 in
theorem pX9_reckon_122 {r : Int64} {u' : Mm} (u : Mm) (s0 : Int64) (h : bX9_reckon_122 u s0 = some (r, u')) : Eg MX9_reckon 0 0 0 (some (.long r), u') 122 [] [.long s0] u := by
  unfold bX9_reckon_122 at h
  exact E_lret h dX9_reckon_122 rfl
def bX9_reckon_104 (u : Mm) (a0 : Nat) (y2 : Int64) (y4 : Int64) (s0 : Int32) (s1 : Nat) : Option (Int64 × Mm) := oK u s1 9 54 (oZ s0 (oU (wI u s1 (upd (mI u s1) 38 s0)) (fun u3 => oK u3 a0 9 54 (oI (mI u3 a0 38) (fun v4 => (if (v4 : Int32) = 0 then (if (y4 : Int64) ≠ 0 then bX9_reckon_122 u3 (y2 - y2 / y4 * y4) else none) else bX9_reckon_122 u3 0))))))
set_option maxRecDepth 100000 in
set_option maxHeartbeats 4000000 in
theorem pX9_reckon_104 {r : Int64} {u' : Mm} (u : Mm) (a0 : Nat) (y2 : Int64) (y4 : Int64) (s0 : Int32) (s1 : Nat) (h : bX9_reckon_104 u a0 y2 y4 s0 s1 = some (r, u')) : Eg MX9_reckon 0 0 0 (some (.long r), u') 104 [(0, .ref a0), (2, .long y2), (4, .long y4)] [.int s0, .ref s1] u := by
  unfold bX9_reckon_104 at h
  refine E_putZ h dX9_reckon_104 cf9 lk_X9_368 (by decide) (Or.inl rfl) rfl (fun h => ?_)
  refine E_oU h (fun u3 h => ?_)
  refine E_aload_n dX9_reckon_107 rfl rfl ?_
  refine E_getI h dX9_reckon_108 cf9 lk_X9_368 (by decide) (fun _ _ _ => rfl) (fun h => ?_)
  refine E_oI h (fun v4 h => ?_)
  refine E_if_eq (tgt := 118) h dX9_reckon_111 (by decide) (fun h => ?_) (fun h => ?_)
  · refine E_lload_n dX9_reckon_118 rfl rfl ?_
    refine E_lload dX9_reckon_119 rfl ?_
    refine E_lrem h dX9_reckon_121 (fun h => ?_)
    refine Eg.pick [] rfl ?_
    exact pX9_reckon_122 _ _ h
  · refine E_lconst (v := 0) dX9_reckon_114 (by decide) ?_
    refine E_goto (tgt := 122) dX9_reckon_115 (by decide) ?_
    refine Eg.pick [] rfl ?_
    exact pX9_reckon_122 _ _ h
def bX9_reckon_135 (u : Mm) (s0 : Int64) : Option (Int64 × Mm) := some (s0, u)
set_option maxRecDepth 100000 in
set_option maxHeartbeats 4000000 in
theorem pX9_reckon_135 {r : Int64} {u' : Mm} (u : Mm) (s0 : Int64) (h : bX9_reckon_135 u s0 = some (r, u')) : Eg MX9_reckon 0 0 0 (some (.long r), u') 135 [] [.long s0] u := by
  unfold bX9_reckon_135 at h
  exact E_lret h dX9_reckon_135 rfl
def bX9_reckon_148 (u : Mm) (s0 : Int64) : Option (Int64 × Mm) := some (s0, u)
set_option maxRecDepth 100000 in
set_option maxHeartbeats 4000000 in
theorem pX9_reckon_148 {r : Int64} {u' : Mm} (u : Mm) (s0 : Int64) (h : bX9_reckon_148 u s0 = some (r, u')) : Eg MX9_reckon 0 0 0 (some (.long r), u') 148 [] [.long s0] u := by
  unfold bX9_reckon_148 at h
  exact E_lret h dX9_reckon_148 rfl
def bX9_reckon_161 (u : Mm) (s0 : Int64) : Option (Int64 × Mm) := some (s0, u)
set_option maxRecDepth 100000 in
set_option maxHeartbeats 4000000 in
theorem pX9_reckon_161 {r : Int64} {u' : Mm} (u : Mm) (s0 : Int64) (h : bX9_reckon_161 u s0 = some (r, u')) : Eg MX9_reckon 0 0 0 (some (.long r), u') 161 [] [.long s0] u := by
  unfold bX9_reckon_161 at h
  exact E_lret h dX9_reckon_161 rfl
def fX9_reckon (u : Mm) (a0 : Nat) (x1 : Int32) (y2 : Int64) (y4 : Int64) : Option (Int64 × Mm) := (if (x1 : Int32) = 20 then some (y2 + y4, u) else (if (x1 : Int32) = 21 then some (y2 - y4, u) else (if (x1 : Int32) = 22 then some (y2 * y4, u) else (if (x1 : Int32) = 23 then (if (lg_cmp y4 0 : Int32) = 0 then bX9_reckon_72 u a0 y2 y4 1 a0 else bX9_reckon_72 u a0 y2 y4 0 a0) else (if (x1 : Int32) = 24 then (if (lg_cmp y4 0 : Int32) = 0 then bX9_reckon_104 u a0 y2 y4 1 a0 else bX9_reckon_104 u a0 y2 y4 0 a0) else (if (x1 : Int32) = 25 then (if 0 ≤ (lg_cmp y2 y4 : Int32) then bX9_reckon_135 u 0 else bX9_reckon_135 u 1) else (if (x1 : Int32) = 26 then (if (lg_cmp y2 y4 : Int32) ≤ 0 then bX9_reckon_148 u 0 else bX9_reckon_148 u 1) else (if (lg_cmp y2 y4 : Int32) = 0 then bX9_reckon_161 u 1 else bX9_reckon_161 u 0))))))))
set_option maxRecDepth 100000 in
set_option maxHeartbeats 4000000 in
theorem tX9_reckon {u : Mm} {a0 : Nat} {x1 : Int32} {y2 : Int64} {y4 : Int64} {r : Int64} {u' : Mm} (h : fX9_reckon u a0 x1 y2 y4 = some (r, u')) : Ev 0 MX9_reckon 0 0 [.ref a0, .int x1, .long y2, .long y4] u (some (.long r), u') := by
  refine Ev.of (by decide +kernel) (Nat.le_of_ble_eq_true rfl) (show Eg MX9_reckon 0 0 0 (some (.long r), u') 0 [(0, .ref a0), (1, .int x1), (2, .long y2), (4, .long y4)] [] u from ?_)
  unfold fX9_reckon at h
  refine E_iload_n dX9_reckon_0 rfl rfl ?_
  refine ite_cases h (fun c1_0 h => ?_) (fun c1_0 h => ?_)
  · refine E_tabIn (off := 43) (tgt := 44) dX9_reckon_1 c1_0 (by decide +kernel) (by decide +kernel) (by decide +kernel) (by decide) ?_
    refine E_lload_n dX9_reckon_44 rfl rfl ?_
    refine E_lload dX9_reckon_45 rfl ?_
    refine E_ladd dX9_reckon_47 ?_
    exact E_lret h dX9_reckon_48 rfl
  · refine ite_cases h (fun c1_1 h => ?_) (fun c1_1 h => ?_)
    · refine E_tabIn (off := 48) (tgt := 49) dX9_reckon_1 c1_1 (by decide +kernel) (by decide +kernel) (by decide +kernel) (by decide) ?_
      refine E_lload_n dX9_reckon_49 rfl rfl ?_
      refine E_lload dX9_reckon_50 rfl ?_
      refine E_lsub dX9_reckon_52 ?_
      exact E_lret h dX9_reckon_53 rfl
    · refine ite_cases h (fun c1_2 h => ?_) (fun c1_2 h => ?_)
      · refine E_tabIn (off := 53) (tgt := 54) dX9_reckon_1 c1_2 (by decide +kernel) (by decide +kernel) (by decide +kernel) (by decide) ?_
        refine E_lload_n dX9_reckon_54 rfl rfl ?_
        refine E_lload dX9_reckon_55 rfl ?_
        refine E_lmul dX9_reckon_57 ?_
        exact E_lret h dX9_reckon_58 rfl
      · refine ite_cases h (fun c1_3 h => ?_) (fun c1_3 h => ?_)
        · refine E_tabIn (off := 58) (tgt := 59) dX9_reckon_1 c1_3 (by decide +kernel) (by decide +kernel) (by decide +kernel) (by decide) ?_
          refine E_aload_n dX9_reckon_59 rfl rfl ?_
          refine E_lload dX9_reckon_60 rfl ?_
          refine E_lconst (v := 0) dX9_reckon_62 (by decide) ?_
          refine E_lcmp dX9_reckon_63 ?_
          refine E_if_ne (tgt := 71) h dX9_reckon_64 (by decide) (fun h => ?_) (fun h => ?_)
          · refine E_iconst (v := 0) dX9_reckon_71 (by decide) ?_
            refine Eg.pick [0, 2, 3] rfl ?_
            exact pX9_reckon_72 _ _ _ _ _ _ h
          · refine E_iconst (v := 1) dX9_reckon_67 (by decide) ?_
            refine E_goto (tgt := 72) dX9_reckon_68 (by decide) ?_
            refine Eg.pick [0, 2, 3] rfl ?_
            exact pX9_reckon_72 _ _ _ _ _ _ h
        · refine ite_cases h (fun c1_4 h => ?_) (fun c1_4 h => ?_)
          · refine E_tabIn (off := 90) (tgt := 91) dX9_reckon_1 c1_4 (by decide +kernel) (by decide +kernel) (by decide +kernel) (by decide) ?_
            refine E_aload_n dX9_reckon_91 rfl rfl ?_
            refine E_lload dX9_reckon_92 rfl ?_
            refine E_lconst (v := 0) dX9_reckon_94 (by decide) ?_
            refine E_lcmp dX9_reckon_95 ?_
            refine E_if_ne (tgt := 103) h dX9_reckon_96 (by decide) (fun h => ?_) (fun h => ?_)
            · refine E_iconst (v := 0) dX9_reckon_103 (by decide) ?_
              refine Eg.pick [0, 2, 3] rfl ?_
              exact pX9_reckon_104 _ _ _ _ _ _ h
            · refine E_iconst (v := 1) dX9_reckon_99 (by decide) ?_
              refine E_goto (tgt := 104) dX9_reckon_100 (by decide) ?_
              refine Eg.pick [0, 2, 3] rfl ?_
              exact pX9_reckon_104 _ _ _ _ _ _ h
          · refine ite_cases h (fun c1_5 h => ?_) (fun c1_5 h => ?_)
            · refine E_tabIn (off := 122) (tgt := 123) dX9_reckon_1 c1_5 (by decide +kernel) (by decide +kernel) (by decide +kernel) (by decide) ?_
              refine E_lload_n dX9_reckon_123 rfl rfl ?_
              refine E_lload dX9_reckon_124 rfl ?_
              refine E_lcmp dX9_reckon_126 ?_
              refine E_if_ge (tgt := 134) h dX9_reckon_127 (by decide) (fun h => ?_) (fun h => ?_)
              · refine E_lconst (v := 0) dX9_reckon_134 (by decide) ?_
                refine Eg.pick [] rfl ?_
                exact pX9_reckon_135 _ _ h
              · refine E_lconst (v := 1) dX9_reckon_130 (by decide) ?_
                refine E_goto (tgt := 135) dX9_reckon_131 (by decide) ?_
                refine Eg.pick [] rfl ?_
                exact pX9_reckon_135 _ _ h
            · refine ite_cases h (fun c1_6 h => ?_) (fun c1_6 h => ?_)
              · refine E_tabIn (off := 135) (tgt := 136) dX9_reckon_1 c1_6 (by decide +kernel) (by decide +kernel) (by decide +kernel) (by decide) ?_
                refine E_lload_n dX9_reckon_136 rfl rfl ?_
                refine E_lload dX9_reckon_137 rfl ?_
                refine E_lcmp dX9_reckon_139 ?_
                refine E_if_le (tgt := 147) h dX9_reckon_140 (by decide) (fun h => ?_) (fun h => ?_)
                · refine E_lconst (v := 0) dX9_reckon_147 (by decide) ?_
                  refine Eg.pick [] rfl ?_
                  exact pX9_reckon_148 _ _ h
                · refine E_lconst (v := 1) dX9_reckon_143 (by decide) ?_
                  refine E_goto (tgt := 148) dX9_reckon_144 (by decide) ?_
                  refine Eg.pick [] rfl ?_
                  exact pX9_reckon_148 _ _ h
              · refine E_tabD (tgt := 149) [20, 21, 22, 23, 24, 25, 26] dX9_reckon_1 (by intro k hk; simp only [List.mem_cons, List.not_mem_nil, or_false] at hk; rcases hk with rfl | rfl | rfl | rfl | rfl | rfl | rfl <;> first | exact ne_lit (by decide +kernel) c1_0 | exact ne_lit (by decide +kernel) c1_1 | exact ne_lit (by decide +kernel) c1_2 | exact ne_lit (by decide +kernel) c1_3 | exact ne_lit (by decide +kernel) c1_4 | exact ne_lit (by decide +kernel) c1_5 | exact ne_lit (by decide +kernel) c1_6) (by decide +kernel) (by decide) ?_
                refine E_lload_n dX9_reckon_149 rfl rfl ?_
                refine E_lload dX9_reckon_150 rfl ?_
                refine E_lcmp dX9_reckon_152 ?_
                refine E_if_ne (tgt := 160) h dX9_reckon_153 (by decide) (fun h => ?_) (fun h => ?_)
                · refine E_lconst (v := 0) dX9_reckon_160 (by decide) ?_
                  refine Eg.pick [] rfl ?_
                  exact pX9_reckon_161 _ _ h
                · refine E_lconst (v := 1) dX9_reckon_156 (by decide) ?_
                  refine E_goto (tgt := 161) dX9_reckon_157 (by decide) ?_
                  refine Eg.pick [] rfl ?_
                  exact pX9_reckon_161 _ _ h
def bX9_reckonAll_371 (u : Mm) (s0 : Int64) (s1 : Nat) : Option (Unit × Mm) := oK u s1 9 54 (oU (wL u s1 (vp_updL (mL u s1) 39 s0)) (fun u2 => some ((), u2)))
set_option maxRecDepth 100000 in
set_option maxHeartbeats 4000000 in
theorem pX9_reckonAll_371 {r : Unit} {u' : Mm} (u : Mm) (s0 : Int64) (s1 : Nat) (h : bX9_reckonAll_371 u s0 s1 = some (r, u')) : Eg MX9_reckonAll 1 0 0 (none, u') 371 [] [.long s0, .ref s1] u := by
  unfold bX9_reckonAll_371 at h
  refine E_putL h dX9_reckonAll_371 cf9 lk_X9_382 (by decide) (Or.inl rfl) rfl (fun h => ?_)
  refine E_oU h (fun u2 h => ?_)
  exact E_vret h dX9_reckonAll_374 rfl
def bX9_reckonAll_356 (u : Mm) (a0 : Nat) (x3 : Int32) : Option (Unit × Mm) := (if (x3 : Int32) ≤ 0 then bX9_reckonAll_371 u 0 a0 else oK u a0 9 54 (oNn (mR u a0 37) (fun e3 => oA u e3 11 0 (oJ (mL u e3 (Int32.toNatClampNeg 0)) (fun w4 => bX9_reckonAll_371 u w4 a0)))))
set_option maxRecDepth 100000 in
set_option maxHeartbeats 4000000 in
theorem pX9_reckonAll_356 {r : Unit} {u' : Mm} (u : Mm) (a0 : Nat) (x3 : Int32) (h : bX9_reckonAll_356 u a0 x3 = some (r, u')) : Eg MX9_reckonAll 1 0 0 (none, u') 356 [(0, .ref a0), (3, .int x3)] [] u := by
  unfold bX9_reckonAll_356 at h
  refine E_aload_n dX9_reckonAll_356 rfl rfl ?_
  refine E_iload_n dX9_reckonAll_357 rfl rfl ?_
  refine E_if_le (tgt := 370) h dX9_reckonAll_358 (by decide) (fun h => ?_) (fun h => ?_)
  · refine E_lconst (v := 0) dX9_reckonAll_370 (by decide) ?_
    refine Eg.pick [] rfl ?_
    exact pX9_reckonAll_371 _ _ _ h
  · refine E_aload_n dX9_reckonAll_361 rfl rfl ?_
    refine E_getA h dX9_reckonAll_362 cf9 lk_X9_105 (by decide) (fun _ _ _ => rfl) (fun e3 h => ?_)
    refine E_iconst (v := 0) dX9_reckonAll_365 (by decide) ?_
    refine E_lald h dX9_reckonAll_366 (fun h => ?_)
    refine E_oJ h (fun w4 h => ?_)
    refine E_goto (tgt := 371) dX9_reckonAll_367 (by decide) ?_
    refine Eg.pick [] rfl ?_
    exact pX9_reckonAll_371 _ _ _ h
def bX9_reckonAll_353 (k10 : Mm → Nat → Int32 → Int32 → Int32 → Option (Unit × Mm)) (u : Mm) (a0 : Nat) (x2 : Int32) (x3 : Int32) (x4 : Int32) : Option (Unit × Mm) := k10 u a0 x2 x3 x4
set_option maxRecDepth 100000 in
set_option maxHeartbeats 4000000 in
theorem pX9_reckonAll_353 {r : Unit} {u' : Mm} {k10 : Mm → Nat → Int32 → Int32 → Int32 → Option (Unit × Mm)} (hk10 : ∀ (u : Mm) (a0 : Nat) (x2 : Int32) (x3 : Int32) (x4 : Int32), k10 u a0 x2 x3 x4 = some (r, u') → Eg MX9_reckonAll 1 0 0 (none, u') 10 [(0, .ref a0), (2, .int x2), (3, .int x3), (4, .int x4)] [] u) (u : Mm) (a0 : Nat) (x2 : Int32) (x3 : Int32) (x4 : Int32) (h : bX9_reckonAll_353 k10 u a0 x2 x3 x4 = some (r, u')) : Eg MX9_reckonAll 1 0 0 (none, u') 353 [(0, .ref a0), (2, .int x2), (3, .int x3), (4, .int x4)] [] u := by
  unfold bX9_reckonAll_353 at h
  refine E_goto (tgt := 10) dX9_reckonAll_353 (by decide) ?_
  refine Eg.pick [0, 1, 2, 3] rfl ?_
  exact hk10 _ _ _ _ _ h
def bX9_reckonAll_339 (k10 : Mm → Nat → Int32 → Int32 → Int32 → Option (Unit × Mm)) (u : Mm) (a0 : Nat) (x2 : Int32) (x3 : Int32) (x4 : Int32) (x6 : Int32) (s0 : Int64) (s1 : Int64) : Option (Unit × Mm) := (if (lg_cmp s1 s0 : Int32) = 0 then bX9_reckonAll_353 k10 u a0 x2 x3 x6 else bX9_reckonAll_353 k10 u a0 x2 (x3 + (-1)) x4)
set_option maxRecDepth 100000 in
set_option maxHeartbeats 4000000 in
theorem pX9_reckonAll_339 {r : Unit} {u' : Mm} {k10 : Mm → Nat → Int32 → Int32 → Int32 → Option (Unit × Mm)} (hk10 : ∀ (u : Mm) (a0 : Nat) (x2 : Int32) (x3 : Int32) (x4 : Int32), k10 u a0 x2 x3 x4 = some (r, u') → Eg MX9_reckonAll 1 0 0 (none, u') 10 [(0, .ref a0), (2, .int x2), (3, .int x3), (4, .int x4)] [] u) (u : Mm) (a0 : Nat) (x2 : Int32) (x3 : Int32) (x4 : Int32) (x6 : Int32) (s0 : Int64) (s1 : Int64) (h : bX9_reckonAll_339 k10 u a0 x2 x3 x4 x6 s0 s1 = some (r, u')) : Eg MX9_reckonAll 1 0 0 (none, u') 339 [(0, .ref a0), (2, .int x2), (3, .int x3), (4, .int x4), (6, .int x6)] [.long s0, .long s1] u := by
  unfold bX9_reckonAll_339 at h
  refine E_lcmp dX9_reckonAll_339 ?_
  refine E_if_ne (tgt := 350) h dX9_reckonAll_340 (by decide) (fun h => ?_) (fun h => ?_)
  · refine E_iinc (j := 2) (v := x3 + (-1)) (l' := [(3, .int (x3 + (-1))), (0, .ref a0), (2, .int x2), (4, .int x4), (6, .int x6)]) dX9_reckonAll_350 rfl (addI (by decide)) (Nat.le_of_ble_eq_true rfl) rfl ?_
    refine Eg.pick [1, 2, 0, 3] rfl ?_
    exact pX9_reckonAll_353 hk10 _ _ _ _ _ h
  · refine E_iload dX9_reckonAll_343 rfl ?_
    refine E_istore (l' := [(4, .int x6), (0, .ref a0), (2, .int x2), (3, .int x3), (6, .int x6)]) dX9_reckonAll_345 (Nat.le_of_ble_eq_true rfl) rfl ?_
    refine E_goto (tgt := 353) dX9_reckonAll_347 (by decide) ?_
    refine Eg.pick [1, 2, 3, 0] rfl ?_
    exact pX9_reckonAll_353 hk10 _ _ _ _ _ h
def bX9_reckonAll_285 (k10 : Mm → Nat → Int32 → Int32 → Int32 → Option (Unit × Mm)) (u : Mm) (a0 : Nat) (x2 : Int32) (x3 : Int32) (x4 : Int32) (s0 : Int32) (s1 : Nat) : Option (Unit × Mm) := oK u s1 9 54 (oZ s0 (oU (wI u s1 (upd (mI u s1) 38 s0)) (fun u29 => bX9_reckonAll_353 k10 u29 a0 x2 x3 x4)))
set_option maxRecDepth 100000 in
set_option maxHeartbeats 4000000 in
theorem pX9_reckonAll_285 {r : Unit} {u' : Mm} {k10 : Mm → Nat → Int32 → Int32 → Int32 → Option (Unit × Mm)} (hk10 : ∀ (u : Mm) (a0 : Nat) (x2 : Int32) (x3 : Int32) (x4 : Int32), k10 u a0 x2 x3 x4 = some (r, u') → Eg MX9_reckonAll 1 0 0 (none, u') 10 [(0, .ref a0), (2, .int x2), (3, .int x3), (4, .int x4)] [] u) (u : Mm) (a0 : Nat) (x2 : Int32) (x3 : Int32) (x4 : Int32) (s0 : Int32) (s1 : Nat) (h : bX9_reckonAll_285 k10 u a0 x2 x3 x4 s0 s1 = some (r, u')) : Eg MX9_reckonAll 1 0 0 (none, u') 285 [(0, .ref a0), (2, .int x2), (3, .int x3), (4, .int x4)] [.int s0, .ref s1] u := by
  unfold bX9_reckonAll_285 at h
  refine E_putZ h dX9_reckonAll_285 cf9 lk_X9_368 (by decide) (Or.inl rfl) rfl (fun h => ?_)
  refine E_oU h (fun u29 h => ?_)
  refine E_goto (tgt := 353) dX9_reckonAll_288 (by decide) ?_
  refine Eg.pick [0, 1, 2, 3] rfl ?_
  exact pX9_reckonAll_353 hk10 _ _ _ _ _ h
def bX9_reckonAll_280 (k10 : Mm → Nat → Int32 → Int32 → Int32 → Option (Unit × Mm)) (u : Mm) (a0 : Nat) (x2 : Int32) (x3 : Int32) (x4 : Int32) (s0 : Nat) : Option (Unit × Mm) := bX9_reckonAll_285 k10 u a0 x2 x3 x4 1 s0
set_option maxRecDepth 100000 in
set_option maxHeartbeats 4000000 in
theorem pX9_reckonAll_280 {r : Unit} {u' : Mm} {k10 : Mm → Nat → Int32 → Int32 → Int32 → Option (Unit × Mm)} (hk10 : ∀ (u : Mm) (a0 : Nat) (x2 : Int32) (x3 : Int32) (x4 : Int32), k10 u a0 x2 x3 x4 = some (r, u') → Eg MX9_reckonAll 1 0 0 (none, u') 10 [(0, .ref a0), (2, .int x2), (3, .int x3), (4, .int x4)] [] u) (u : Mm) (a0 : Nat) (x2 : Int32) (x3 : Int32) (x4 : Int32) (s0 : Nat) (h : bX9_reckonAll_280 k10 u a0 x2 x3 x4 s0 = some (r, u')) : Eg MX9_reckonAll 1 0 0 (none, u') 280 [(0, .ref a0), (2, .int x2), (3, .int x3), (4, .int x4)] [.ref s0] u := by
  unfold bX9_reckonAll_280 at h
  refine E_iconst (v := 1) dX9_reckonAll_280 (by decide) ?_
  refine E_goto (tgt := 285) dX9_reckonAll_281 (by decide) ?_
  refine Eg.pick [0, 1, 2, 3] rfl ?_
  exact pX9_reckonAll_285 hk10 _ _ _ _ _ _ _ h
def bX9_reckonAll_207 (k10 : Mm → Nat → Int32 → Int32 → Int32 → Option (Unit × Mm)) (u : Mm) (a0 : Nat) (x2 : Int32) (x3 : Int32) (x4 : Int32) (s0 : Int64) (s1 : Int32) (s2 : Nat) : Option (Unit × Mm) := oA u s2 11 s1 (oU (wL u s2 (vp_updL (mL u s2) (Int32.toNatClampNeg s1) s0)) (fun u38 => bX9_reckonAll_353 k10 u38 a0 x2 (x3 + 1) x4))
set_option maxRecDepth 100000 in
set_option maxHeartbeats 4000000 in
theorem pX9_reckonAll_207 {r : Unit} {u' : Mm} {k10 : Mm → Nat → Int32 → Int32 → Int32 → Option (Unit × Mm)} (hk10 : ∀ (u : Mm) (a0 : Nat) (x2 : Int32) (x3 : Int32) (x4 : Int32), k10 u a0 x2 x3 x4 = some (r, u') → Eg MX9_reckonAll 1 0 0 (none, u') 10 [(0, .ref a0), (2, .int x2), (3, .int x3), (4, .int x4)] [] u) (u : Mm) (a0 : Nat) (x2 : Int32) (x3 : Int32) (x4 : Int32) (s0 : Int64) (s1 : Int32) (s2 : Nat) (h : bX9_reckonAll_207 k10 u a0 x2 x3 x4 s0 s1 s2 = some (r, u')) : Eg MX9_reckonAll 1 0 0 (none, u') 207 [(0, .ref a0), (2, .int x2), (3, .int x3), (4, .int x4)] [.long s0, .int s1, .ref s2] u := by
  unfold bX9_reckonAll_207 at h
  refine E_last h dX9_reckonAll_207 (fun h => ?_)
  refine E_oU h (fun u38 h => ?_)
  refine E_iinc (j := 2) (v := x3 + 1) (l' := [(3, .int (x3 + 1)), (0, .ref a0), (2, .int x2), (4, .int x4)]) dX9_reckonAll_208 rfl (addI (by decide)) (Nat.le_of_ble_eq_true rfl) rfl ?_
  refine E_goto (tgt := 353) dX9_reckonAll_211 (by decide) ?_
  refine Eg.pick [1, 2, 0, 3] rfl ?_
  exact pX9_reckonAll_353 hk10 _ _ _ _ _ h
def bX9_reckonAll_95 (k10 : Mm → Nat → Int32 → Int32 → Int32 → Option (Unit × Mm)) (u : Mm) (a0 : Nat) (x2 : Int32) (x3 : Int32) (x4 : Int32) (x5 : Int32) (s0 : Int32) : Option (Unit × Mm) := (if (20 : Int32) ≤ x5 then (if (28 : Int32) ≤ x5 then (if (x5 : Int32) = 28 then oK u a0 9 54 (oNn (mR u a0 37) (fun e16 => oK u a0 9 54 (oNn (mR u a0 37) (fun e17 => oA u e17 11 (x3 - 1) (oJ (mL u e17 (Int32.toNatClampNeg (x3 - 1))) (fun w18 => oA u e16 11 (x3 - 1) (oU (wL u e16 (vp_updL (mL u e16) (Int32.toNatClampNeg (x3 - 1)) ((1 : Int64) - w18))) (fun u19 => bX9_reckonAll_353 k10 u19 a0 x2 x3 (x4 + 1))))))))) else oK u a0 9 54 (oNn (mR u a0 37) (fun e14 => oA u e14 11 (x3 - 1) (oJ (mL u e14 (Int32.toNatClampNeg (x3 - 1))) (fun w15 => (if (x5 : Int32) = 29 then bX9_reckonAll_339 k10 u a0 x2 x3 (x4 + 1) s0 0 w15 else bX9_reckonAll_339 k10 u a0 x2 x3 (x4 + 1) s0 1 w15)))))) else oK u a0 9 54 (oNn (mR u a0 37) (fun e20 => oK u a0 9 54 (oNn (mR u a0 37) (fun e21 => oA u e21 11 ((x3 + (-1)) - 1) (oJ (mL u e21 (Int32.toNatClampNeg ((x3 + (-1)) - 1))) (fun w22 => oK u a0 9 54 (oNn (mR u a0 37) (fun e23 => oA u e23 11 (x3 + (-1)) (oJ (mL u e23 (Int32.toNatClampNeg (x3 + (-1)))) (fun w24 => oR u a0 9 (oB (fX9_reckon u a0 x5 w22 w24) (fun w25 u26 => oA u26 e20 11 ((x3 + (-1)) - 1) (oU (wL u26 e20 (vp_updL (mL u26 e20) (Int32.toNatClampNeg ((x3 + (-1)) - 1)) w25)) (fun u27 => oK u27 a0 9 54 (oI (mI u27 a0 38) (fun v28 => (if (v28 : Int32) = 0 then oK u27 a0 9 54 (oNn (mR u27 a0 37) (fun e30 => oA u27 e30 11 ((x3 + (-1)) - 1) (oJ (mL u27 e30 (Int32.toNatClampNeg ((x3 + (-1)) - 1))) (fun w31 => oB (fX9_in u27 w31 ((-1000000000)) 1000000000) (fun v32 u33 => (if (v32 : Int32) = 0 then bX9_reckonAll_280 k10 u33 a0 x2 (x3 + (-1)) (x4 + 1) a0 else bX9_reckonAll_285 k10 u33 a0 x2 (x3 + (-1)) (x4 + 1) 0 a0)))))) else bX9_reckonAll_280 k10 u27 a0 x2 (x3 + (-1)) (x4 + 1) a0)))))))))))))))))) else oK u a0 9 54 (oNn (mR u a0 37) (fun e34 => (if (x5 : Int32) = 0 then bX9_reckonAll_207 k10 u a0 x2 x3 (x4 + 1) (Int32.toInt64 s0) x3 e34 else oK u a0 9 54 (oI (mI u a0 20) (fun v35 => (if (v35 : Int32) = 0 then oK u a0 9 54 (oNn (mR u a0 35) (fun e45 => oA u e45 11 x5 (oJ (mL u e45 (Int32.toNatClampNeg x5)) (fun w46 => bX9_reckonAll_207 k10 u a0 x2 x3 (x4 + 1) w46 x3 e34)))) else (if (4 : Int32) ≤ x5 then (if (x5 : Int32) = 4 then oK u a0 9 54 (oNn (mR u a0 3) (fun e41 => oA u e41 10 ((7 : Int32) + s0) (oI (mI u e41 (Int32.toNatClampNeg ((7 : Int32) + s0))) (fun v42 => bX9_reckonAll_207 k10 u a0 x2 x3 (x4 + 1) (Int32.toInt64 v42) x3 e34)))) else (if (x5 : Int32) = 5 then oK u a0 9 54 (oNn (mR u a0 3) (fun e39 => oA u e39 10 ((31 : Int32) + s0) (oI (mI u e39 (Int32.toNatClampNeg ((31 : Int32) + s0))) (fun v40 => bX9_reckonAll_207 k10 u a0 x2 x3 (x4 + 1) (Int32.toInt64 v40) x3 e34)))) else oK u a0 9 54 (oNn (mR u a0 3) (fun e36 => oA u e36 10 ((33 : Int32) + s0) (oI (mI u e36 (Int32.toNatClampNeg ((33 : Int32) + s0))) (fun v37 => bX9_reckonAll_207 k10 u a0 x2 x3 (x4 + 1) (Int32.toInt64 v37) x3 e34)))))) else oK u a0 9 54 (oNn (mR u a0 36) (fun e43 => oA u e43 11 x5 (oJ (mL u e43 (Int32.toNatClampNeg x5)) (fun w44 => bX9_reckonAll_207 k10 u a0 x2 x3 (x4 + 1) w44 x3 e34))))))))))))
set_option maxRecDepth 100000 in
set_option maxHeartbeats 4000000 in
theorem pX9_reckonAll_95 {r : Unit} {u' : Mm} {k10 : Mm → Nat → Int32 → Int32 → Int32 → Option (Unit × Mm)} (hk10 : ∀ (u : Mm) (a0 : Nat) (x2 : Int32) (x3 : Int32) (x4 : Int32), k10 u a0 x2 x3 x4 = some (r, u') → Eg MX9_reckonAll 1 0 0 (none, u') 10 [(0, .ref a0), (2, .int x2), (3, .int x3), (4, .int x4)] [] u) (u : Mm) (a0 : Nat) (x2 : Int32) (x3 : Int32) (x4 : Int32) (x5 : Int32) (s0 : Int32) (h : bX9_reckonAll_95 k10 u a0 x2 x3 x4 x5 s0 = some (r, u')) : Eg MX9_reckonAll 1 0 0 (none, u') 95 [(0, .ref a0), (2, .int x2), (3, .int x3), (4, .int x4), (5, .int x5)] [.int s0] u := by
  unfold bX9_reckonAll_95 at h
  refine E_istore (l' := [(6, .int s0), (0, .ref a0), (2, .int x2), (3, .int x3), (4, .int x4), (5, .int x5)]) dX9_reckonAll_95 (Nat.le_of_ble_eq_true rfl) rfl ?_
  refine E_iinc (j := 4) (v := x4 + 1) (l' := [(4, .int (x4 + 1)), (6, .int s0), (0, .ref a0), (2, .int x2), (3, .int x3), (5, .int x5)]) dX9_reckonAll_97 rfl (addI (by decide)) (Nat.le_of_ble_eq_true rfl) rfl ?_
  refine E_iload dX9_reckonAll_100 rfl ?_
  refine E_bipush (v := 20) dX9_reckonAll_102 (by decide) ?_
  refine E_ic_ge (tgt := 214) h dX9_reckonAll_104 (by decide) (fun h => ?_) (fun h => ?_)
  · refine E_iload dX9_reckonAll_214 rfl ?_
    refine E_bipush (v := 28) dX9_reckonAll_216 (by decide) ?_
    refine E_ic_ge (tgt := 291) h dX9_reckonAll_218 (by decide) (fun h => ?_) (fun h => ?_)
    · refine E_iload dX9_reckonAll_291 rfl ?_
      refine E_bipush (v := 28) dX9_reckonAll_293 (by decide) ?_
      refine E_ic_ne (tgt := 319) h dX9_reckonAll_295 (by decide) (fun h => ?_) (fun h => ?_)
      · refine E_aload_n dX9_reckonAll_319 rfl rfl ?_
        refine E_getA h dX9_reckonAll_320 cf9 lk_X9_105 (by decide) (fun _ _ _ => rfl) (fun e14 h => ?_)
        refine E_iload_n dX9_reckonAll_323 rfl rfl ?_
        refine E_iconst (v := 1) dX9_reckonAll_324 (by decide) ?_
        refine E_isub dX9_reckonAll_325 ?_
        refine E_lald h dX9_reckonAll_326 (fun h => ?_)
        refine E_oJ h (fun w15 h => ?_)
        refine E_iload dX9_reckonAll_327 rfl ?_
        refine E_bipush (v := 29) dX9_reckonAll_329 (by decide) ?_
        refine E_ic_ne (tgt := 338) h dX9_reckonAll_331 (by decide) (fun h => ?_) (fun h => ?_)
        · refine E_lconst (v := 1) dX9_reckonAll_338 (by decide) ?_
          refine Eg.pick [2, 3, 4, 0, 1] rfl ?_
          exact pX9_reckonAll_339 hk10 _ _ _ _ _ _ _ _ h
        · refine E_lconst (v := 0) dX9_reckonAll_334 (by decide) ?_
          refine E_goto (tgt := 339) dX9_reckonAll_335 (by decide) ?_
          refine Eg.pick [2, 3, 4, 0, 1] rfl ?_
          exact pX9_reckonAll_339 hk10 _ _ _ _ _ _ _ _ h
      · refine E_aload_n dX9_reckonAll_298 rfl rfl ?_
        refine E_getA h dX9_reckonAll_299 cf9 lk_X9_105 (by decide) (fun _ _ _ => rfl) (fun e16 h => ?_)
        refine E_iload_n dX9_reckonAll_302 rfl rfl ?_
        refine E_iconst (v := 1) dX9_reckonAll_303 (by decide) ?_
        refine E_isub dX9_reckonAll_304 ?_
        refine E_lconst (v := 1) dX9_reckonAll_305 (by decide) ?_
        refine E_aload_n dX9_reckonAll_306 rfl rfl ?_
        refine E_getA h dX9_reckonAll_307 cf9 lk_X9_105 (by decide) (fun _ _ _ => rfl) (fun e17 h => ?_)
        refine E_iload_n dX9_reckonAll_310 rfl rfl ?_
        refine E_iconst (v := 1) dX9_reckonAll_311 (by decide) ?_
        refine E_isub dX9_reckonAll_312 ?_
        refine E_lald h dX9_reckonAll_313 (fun h => ?_)
        refine E_oJ h (fun w18 h => ?_)
        refine E_lsub dX9_reckonAll_314 ?_
        refine E_last h dX9_reckonAll_315 (fun h => ?_)
        refine E_oU h (fun u19 h => ?_)
        refine E_goto (tgt := 353) dX9_reckonAll_316 (by decide) ?_
        refine Eg.pick [2, 3, 4, 0] rfl ?_
        exact pX9_reckonAll_353 hk10 _ _ _ _ _ h
    · refine E_iinc (j := 4) (v := x3 + (-1)) (l' := [(3, .int (x3 + (-1))), (4, .int (x4 + 1)), (6, .int s0), (0, .ref a0), (2, .int x2), (5, .int x5)]) dX9_reckonAll_221 rfl (addI (by decide)) (Nat.le_of_ble_eq_true rfl) rfl ?_
      refine E_aload_n dX9_reckonAll_224 rfl rfl ?_
      refine E_getA h dX9_reckonAll_225 cf9 lk_X9_105 (by decide) (fun _ _ _ => rfl) (fun e20 h => ?_)
      refine E_iload_n dX9_reckonAll_228 rfl rfl ?_
      refine E_iconst (v := 1) dX9_reckonAll_229 (by decide) ?_
      refine E_isub dX9_reckonAll_230 ?_
      refine E_aload_n dX9_reckonAll_231 rfl rfl ?_
      refine E_iload dX9_reckonAll_232 rfl ?_
      refine E_aload_n dX9_reckonAll_234 rfl rfl ?_
      refine E_getA h dX9_reckonAll_235 cf9 lk_X9_105 (by decide) (fun _ _ _ => rfl) (fun e21 h => ?_)
      refine E_iload_n dX9_reckonAll_238 rfl rfl ?_
      refine E_iconst (v := 1) dX9_reckonAll_239 (by decide) ?_
      refine E_isub dX9_reckonAll_240 ?_
      refine E_lald h dX9_reckonAll_241 (fun h => ?_)
      refine E_oJ h (fun w22 h => ?_)
      refine E_aload_n dX9_reckonAll_242 rfl rfl ?_
      refine E_getA h dX9_reckonAll_243 cf9 lk_X9_105 (by decide) (fun _ _ _ => rfl) (fun e23 h => ?_)
      refine E_iload_n dX9_reckonAll_246 rfl rfl ?_
      refine E_lald h dX9_reckonAll_247 (fun h => ?_)
      refine E_oJ h (fun w24 h => ?_)
      refine F_Vl h (fun a m e => tX9_reckon e) dX9_reckonAll_248 hm_X9_reckon hv_X9_reckon ln_X9_374 rfl rfl (Nat.le_of_ble_eq_true rfl) (Nat.le_of_ble_eq_true rfl) (kc' := 0) (ks' := 0) rfl rfl (fun w25 u26 h => ?_)
      refine E_last h dX9_reckonAll_251 (fun h => ?_)
      refine E_oU h (fun u27 h => ?_)
      refine E_aload_n dX9_reckonAll_252 rfl rfl ?_
      refine E_aload_n dX9_reckonAll_253 rfl rfl ?_
      refine E_getI h dX9_reckonAll_254 cf9 lk_X9_368 (by decide) (fun _ _ _ => rfl) (fun h => ?_)
      refine E_oI h (fun v28 h => ?_)
      refine E_if_ne (tgt := 280) h dX9_reckonAll_257 (by decide) (fun h => ?_) (fun h => ?_)
      · refine Eg.pick [3, 4, 0, 1] rfl ?_
        exact pX9_reckonAll_280 hk10 _ _ _ _ _ _ h
      · refine E_aload_n dX9_reckonAll_260 rfl rfl ?_
        refine E_getA h dX9_reckonAll_261 cf9 lk_X9_105 (by decide) (fun _ _ _ => rfl) (fun e30 h => ?_)
        refine E_iload_n dX9_reckonAll_264 rfl rfl ?_
        refine E_iconst (v := 1) dX9_reckonAll_265 (by decide) ?_
        refine E_isub dX9_reckonAll_266 ?_
        refine E_lald h dX9_reckonAll_267 (fun h => ?_)
        refine E_oJ h (fun w31 h => ?_)
        refine E_ldc2 dX9_reckonAll_268 rfl cn_X9_378 ?_
        refine E_ldc2 dX9_reckonAll_271 rfl cn_X9_380 ?_
        refine F_Si h (fun a m e => tX9_in e) dX9_reckonAll_274 hm_X9_in hs_X9_in ln_X9_154 rfl rfl (Nat.le_of_ble_eq_true rfl) (Nat.le_of_ble_eq_true rfl) (kc' := 0) (ks' := 0) rfl rfl (fun v32 u33 h => ?_)
        refine E_if_ne (tgt := 284) h dX9_reckonAll_277 (by decide) (fun h => ?_) (fun h => ?_)
        · refine E_iconst (v := 0) dX9_reckonAll_284 (by decide) ?_
          refine Eg.pick [3, 4, 0, 1] rfl ?_
          exact pX9_reckonAll_285 hk10 _ _ _ _ _ _ _ h
        · refine Eg.pick [3, 4, 0, 1] rfl ?_
          exact pX9_reckonAll_280 hk10 _ _ _ _ _ _ h
  · refine E_aload_n dX9_reckonAll_107 rfl rfl ?_
    refine E_getA h dX9_reckonAll_108 cf9 lk_X9_105 (by decide) (fun _ _ _ => rfl) (fun e34 h => ?_)
    refine E_iload_n dX9_reckonAll_111 rfl rfl ?_
    refine E_iload dX9_reckonAll_112 rfl ?_
    refine E_if_ne (tgt := 123) h dX9_reckonAll_114 (by decide) (fun h => ?_) (fun h => ?_)
    · refine E_aload_n dX9_reckonAll_123 rfl rfl ?_
      refine E_getI h dX9_reckonAll_124 cf9 lk_X9_296 (by decide) (fun _ _ _ => rfl) (fun h => ?_)
      refine E_oI h (fun v35 h => ?_)
      refine E_if_ne (tgt := 140) h dX9_reckonAll_127 (by decide) (fun h => ?_) (fun h => ?_)
      · refine E_iload dX9_reckonAll_140 rfl ?_
        refine E_iconst (v := 4) dX9_reckonAll_142 (by decide) ?_
        refine E_ic_ge (tgt := 156) h dX9_reckonAll_143 (by decide) (fun h => ?_) (fun h => ?_)
        · refine E_iload dX9_reckonAll_156 rfl ?_
          refine E_iconst (v := 4) dX9_reckonAll_158 (by decide) ?_
          refine E_ic_ne (tgt := 176) h dX9_reckonAll_159 (by decide) (fun h => ?_) (fun h => ?_)
          · refine E_iload dX9_reckonAll_176 rfl ?_
            refine E_iconst (v := 5) dX9_reckonAll_178 (by decide) ?_
            refine E_ic_ne (tgt := 196) h dX9_reckonAll_179 (by decide) (fun h => ?_) (fun h => ?_)
            · refine E_aload_n dX9_reckonAll_196 rfl rfl ?_
              refine E_getA h dX9_reckonAll_197 cf9 lk_X9_13 (by decide) (fun _ _ _ => rfl) (fun e36 h => ?_)
              refine E_bipush (v := 33) dX9_reckonAll_200 (by decide) ?_
              refine E_iload dX9_reckonAll_202 rfl ?_
              refine E_iadd dX9_reckonAll_204 ?_
              refine E_iald h dX9_reckonAll_205 (fun h => ?_)
              refine E_oI h (fun v37 h => ?_)
              refine E_i2l dX9_reckonAll_206 ?_
              refine Eg.pick [2, 3, 4, 0] rfl ?_
              exact pX9_reckonAll_207 hk10 _ _ _ _ _ _ _ _ h
            · refine E_aload_n dX9_reckonAll_182 rfl rfl ?_
              refine E_getA h dX9_reckonAll_183 cf9 lk_X9_13 (by decide) (fun _ _ _ => rfl) (fun e39 h => ?_)
              refine E_bipush (v := 31) dX9_reckonAll_186 (by decide) ?_
              refine E_iload dX9_reckonAll_188 rfl ?_
              refine E_iadd dX9_reckonAll_190 ?_
              refine E_iald h dX9_reckonAll_191 (fun h => ?_)
              refine E_oI h (fun v40 h => ?_)
              refine E_i2l dX9_reckonAll_192 ?_
              refine E_goto (tgt := 207) dX9_reckonAll_193 (by decide) ?_
              refine Eg.pick [2, 3, 4, 0] rfl ?_
              exact pX9_reckonAll_207 hk10 _ _ _ _ _ _ _ _ h
          · refine E_aload_n dX9_reckonAll_162 rfl rfl ?_
            refine E_getA h dX9_reckonAll_163 cf9 lk_X9_13 (by decide) (fun _ _ _ => rfl) (fun e41 h => ?_)
            refine E_bipush (v := 7) dX9_reckonAll_166 (by decide) ?_
            refine E_iload dX9_reckonAll_168 rfl ?_
            refine E_iadd dX9_reckonAll_170 ?_
            refine E_iald h dX9_reckonAll_171 (fun h => ?_)
            refine E_oI h (fun v42 h => ?_)
            refine E_i2l dX9_reckonAll_172 ?_
            refine E_goto (tgt := 207) dX9_reckonAll_173 (by decide) ?_
            refine Eg.pick [2, 3, 4, 0] rfl ?_
            exact pX9_reckonAll_207 hk10 _ _ _ _ _ _ _ _ h
        · refine E_aload_n dX9_reckonAll_146 rfl rfl ?_
          refine E_getA h dX9_reckonAll_147 cf9 lk_X9_102 (by decide) (fun _ _ _ => rfl) (fun e43 h => ?_)
          refine E_iload dX9_reckonAll_150 rfl ?_
          refine E_lald h dX9_reckonAll_152 (fun h => ?_)
          refine E_oJ h (fun w44 h => ?_)
          refine E_goto (tgt := 207) dX9_reckonAll_153 (by decide) ?_
          refine Eg.pick [2, 3, 4, 0] rfl ?_
          exact pX9_reckonAll_207 hk10 _ _ _ _ _ _ _ _ h
      · refine E_aload_n dX9_reckonAll_130 rfl rfl ?_
        refine E_getA h dX9_reckonAll_131 cf9 lk_X9_99 (by decide) (fun _ _ _ => rfl) (fun e45 h => ?_)
        refine E_iload dX9_reckonAll_134 rfl ?_
        refine E_lald h dX9_reckonAll_136 (fun h => ?_)
        refine E_oJ h (fun w46 h => ?_)
        refine E_goto (tgt := 207) dX9_reckonAll_137 (by decide) ?_
        refine Eg.pick [2, 3, 4, 0] rfl ?_
        exact pX9_reckonAll_207 hk10 _ _ _ _ _ _ _ _ h
    · refine E_iload dX9_reckonAll_117 rfl ?_
      refine E_i2l dX9_reckonAll_119 ?_
      refine E_goto (tgt := 207) dX9_reckonAll_120 (by decide) ?_
      refine Eg.pick [2, 3, 4, 0] rfl ?_
      exact pX9_reckonAll_207 hk10 _ _ _ _ _ _ _ _ h
def bX9_reckonAll_57 (k10 : Mm → Nat → Int32 → Int32 → Int32 → Option (Unit × Mm)) (u : Mm) (a0 : Nat) (x2 : Int32) (x3 : Int32) (x4 : Int32) (s0 : Int32) : Option (Unit × Mm) := oK u a0 9 54 (oI (mI u a0 20) (fun v10 => (if (v10 : Int32) = 0 then oK u a0 9 54 (oNn (mR u a0 3) (fun e11 => oK u a0 9 54 (oI (mI u a0 34) (fun v12 => oA u e11 10 (((v12 + 98) + ((2 : Int32) * x4)) + 1) (oI (mI u e11 (Int32.toNatClampNeg (((v12 + 98) + ((2 : Int32) * x4)) + 1))) (fun v13 => bX9_reckonAll_95 k10 u a0 x2 x3 x4 s0 v13)))))) else oK u a0 9 54 (oNn (mR u a0 25) (fun e47 => oA u e47 10 x4 (oI (mI u e47 (Int32.toNatClampNeg x4)) (fun v48 => bX9_reckonAll_95 k10 u a0 x2 x3 x4 s0 v48)))))))
set_option maxRecDepth 100000 in
set_option maxHeartbeats 4000000 in
theorem pX9_reckonAll_57 {r : Unit} {u' : Mm} {k10 : Mm → Nat → Int32 → Int32 → Int32 → Option (Unit × Mm)} (hk10 : ∀ (u : Mm) (a0 : Nat) (x2 : Int32) (x3 : Int32) (x4 : Int32), k10 u a0 x2 x3 x4 = some (r, u') → Eg MX9_reckonAll 1 0 0 (none, u') 10 [(0, .ref a0), (2, .int x2), (3, .int x3), (4, .int x4)] [] u) (u : Mm) (a0 : Nat) (x2 : Int32) (x3 : Int32) (x4 : Int32) (s0 : Int32) (h : bX9_reckonAll_57 k10 u a0 x2 x3 x4 s0 = some (r, u')) : Eg MX9_reckonAll 1 0 0 (none, u') 57 [(0, .ref a0), (2, .int x2), (3, .int x3), (4, .int x4)] [.int s0] u := by
  unfold bX9_reckonAll_57 at h
  refine E_istore (l' := [(5, .int s0), (0, .ref a0), (2, .int x2), (3, .int x3), (4, .int x4)]) dX9_reckonAll_57 (Nat.le_of_ble_eq_true rfl) rfl ?_
  refine E_aload_n dX9_reckonAll_59 rfl rfl ?_
  refine E_getI h dX9_reckonAll_60 cf9 lk_X9_296 (by decide) (fun _ _ _ => rfl) (fun h => ?_)
  refine E_oI h (fun v10 h => ?_)
  refine E_if_eq (tgt := 76) h dX9_reckonAll_63 (by decide) (fun h => ?_) (fun h => ?_)
  · refine E_aload_n dX9_reckonAll_76 rfl rfl ?_
    refine E_getA h dX9_reckonAll_77 cf9 lk_X9_13 (by decide) (fun _ _ _ => rfl) (fun e11 h => ?_)
    refine E_aload_n dX9_reckonAll_80 rfl rfl ?_
    refine E_getI h dX9_reckonAll_81 cf9 lk_X9_371 (by decide) (fun _ _ _ => rfl) (fun h => ?_)
    refine E_oI h (fun v12 h => ?_)
    refine E_bipush (v := 98) dX9_reckonAll_84 (by decide) ?_
    refine E_iadd dX9_reckonAll_86 ?_
    refine E_iconst (v := 2) dX9_reckonAll_87 (by decide) ?_
    refine E_iload dX9_reckonAll_88 rfl ?_
    refine E_imul dX9_reckonAll_90 ?_
    refine E_iadd dX9_reckonAll_91 ?_
    refine E_iconst (v := 1) dX9_reckonAll_92 (by decide) ?_
    refine E_iadd dX9_reckonAll_93 ?_
    refine E_iald h dX9_reckonAll_94 (fun h => ?_)
    refine E_oI h (fun v13 h => ?_)
    refine Eg.pick [1, 2, 3, 4, 0] rfl ?_
    exact pX9_reckonAll_95 hk10 _ _ _ _ _ _ _ h
  · refine E_aload_n dX9_reckonAll_66 rfl rfl ?_
    refine E_getA h dX9_reckonAll_67 cf9 lk_X9_48 (by decide) (fun _ _ _ => rfl) (fun e47 h => ?_)
    refine E_iload dX9_reckonAll_70 rfl ?_
    refine E_iald h dX9_reckonAll_72 (fun h => ?_)
    refine E_oI h (fun v48 h => ?_)
    refine E_goto (tgt := 95) dX9_reckonAll_73 (by decide) ?_
    refine Eg.pick [1, 2, 3, 4, 0] rfl ?_
    exact pX9_reckonAll_95 hk10 _ _ _ _ _ _ _ h
def bX9_reckonAll_10 (k10 : Mm → Nat → Int32 → Int32 → Int32 → Option (Unit × Mm)) (u : Mm) (a0 : Nat) (x2 : Int32) (x3 : Int32) (x4 : Int32) : Option (Unit × Mm) := (if (x2 : Int32) ≤ x4 then bX9_reckonAll_356 u a0 x3 else oK u a0 9 54 (oI (mI u a0 38) (fun v5 => (if (v5 : Int32) = 0 then oK u a0 9 54 (oI (mI u a0 20) (fun v6 => (if (v6 : Int32) = 0 then oK u a0 9 54 (oNn (mR u a0 3) (fun e7 => oK u a0 9 54 (oI (mI u a0 34) (fun v8 => oA u e7 10 ((v8 + 98) + ((2 : Int32) * x4)) (oI (mI u e7 (Int32.toNatClampNeg ((v8 + 98) + ((2 : Int32) * x4)))) (fun v9 => bX9_reckonAll_57 k10 u a0 x2 x3 x4 v9)))))) else oK u a0 9 54 (oNn (mR u a0 24) (fun e49 => oA u e49 10 x4 (oI (mI u e49 (Int32.toNatClampNeg x4)) (fun v50 => bX9_reckonAll_57 k10 u a0 x2 x3 x4 v50))))))) else bX9_reckonAll_356 u a0 x3))))
set_option maxRecDepth 100000 in
set_option maxHeartbeats 4000000 in
theorem pX9_reckonAll_10 {r : Unit} {u' : Mm} {k10 : Mm → Nat → Int32 → Int32 → Int32 → Option (Unit × Mm)} (hk10 : ∀ (u : Mm) (a0 : Nat) (x2 : Int32) (x3 : Int32) (x4 : Int32), k10 u a0 x2 x3 x4 = some (r, u') → Eg MX9_reckonAll 1 0 0 (none, u') 10 [(0, .ref a0), (2, .int x2), (3, .int x3), (4, .int x4)] [] u) (u : Mm) (a0 : Nat) (x2 : Int32) (x3 : Int32) (x4 : Int32) (h : bX9_reckonAll_10 k10 u a0 x2 x3 x4 = some (r, u')) : Eg MX9_reckonAll 1 0 0 (none, u') 10 [(0, .ref a0), (2, .int x2), (3, .int x3), (4, .int x4)] [] u := by
  unfold bX9_reckonAll_10 at h
  refine E_iload dX9_reckonAll_10 rfl ?_
  refine E_iload_n dX9_reckonAll_12 rfl rfl ?_
  refine E_ic_ge (tgt := 356) h dX9_reckonAll_13 (by decide) (fun h => ?_) (fun h => ?_)
  · refine Eg.pick [0, 2] rfl ?_
    exact pX9_reckonAll_356 _ _ _ h
  · refine E_aload_n dX9_reckonAll_16 rfl rfl ?_
    refine E_getI h dX9_reckonAll_17 cf9 lk_X9_368 (by decide) (fun _ _ _ => rfl) (fun h => ?_)
    refine E_oI h (fun v5 h => ?_)
    refine E_if_ne (tgt := 356) h dX9_reckonAll_20 (by decide) (fun h => ?_) (fun h => ?_)
    · refine Eg.pick [0, 2] rfl ?_
      exact pX9_reckonAll_356 _ _ _ h
    · refine E_aload_n dX9_reckonAll_23 rfl rfl ?_
      refine E_getI h dX9_reckonAll_24 cf9 lk_X9_296 (by decide) (fun _ _ _ => rfl) (fun h => ?_)
      refine E_oI h (fun v6 h => ?_)
      refine E_if_eq (tgt := 40) h dX9_reckonAll_27 (by decide) (fun h => ?_) (fun h => ?_)
      · refine E_aload_n dX9_reckonAll_40 rfl rfl ?_
        refine E_getA h dX9_reckonAll_41 cf9 lk_X9_13 (by decide) (fun _ _ _ => rfl) (fun e7 h => ?_)
        refine E_aload_n dX9_reckonAll_44 rfl rfl ?_
        refine E_getI h dX9_reckonAll_45 cf9 lk_X9_371 (by decide) (fun _ _ _ => rfl) (fun h => ?_)
        refine E_oI h (fun v8 h => ?_)
        refine E_bipush (v := 98) dX9_reckonAll_48 (by decide) ?_
        refine E_iadd dX9_reckonAll_50 ?_
        refine E_iconst (v := 2) dX9_reckonAll_51 (by decide) ?_
        refine E_iload dX9_reckonAll_52 rfl ?_
        refine E_imul dX9_reckonAll_54 ?_
        refine E_iadd dX9_reckonAll_55 ?_
        refine E_iald h dX9_reckonAll_56 (fun h => ?_)
        refine E_oI h (fun v9 h => ?_)
        refine Eg.pick [0, 1, 2, 3] rfl ?_
        exact pX9_reckonAll_57 hk10 _ _ _ _ _ _ h
      · refine E_aload_n dX9_reckonAll_30 rfl rfl ?_
        refine E_getA h dX9_reckonAll_31 cf9 lk_X9_45 (by decide) (fun _ _ _ => rfl) (fun e49 h => ?_)
        refine E_iload dX9_reckonAll_34 rfl ?_
        refine E_iald h dX9_reckonAll_36 (fun h => ?_)
        refine E_oI h (fun v50 h => ?_)
        refine E_goto (tgt := 57) dX9_reckonAll_37 (by decide) ?_
        refine Eg.pick [0, 1, 2, 3] rfl ?_
        exact pX9_reckonAll_57 hk10 _ _ _ _ _ _ h
def rX9_reckonAll_10 : Nat → Mm → Nat → Int32 → Int32 → Int32 → Option (Unit × Mm)
  | 0, _, _, _, _, _ => none
  | n + 1, u, a0, x2, x3, x4 => bX9_reckonAll_10 (rX9_reckonAll_10 n) u a0 x2 x3 x4
theorem prX9_reckonAll_10 {r : Unit} {u' : Mm} : ∀ (n : Nat) (u : Mm) (a0 : Nat) (x2 : Int32) (x3 : Int32) (x4 : Int32), rX9_reckonAll_10 n u a0 x2 x3 x4 = some (r, u') → Eg MX9_reckonAll 1 0 0 (none, u') 10 [(0, .ref a0), (2, .int x2), (3, .int x3), (4, .int x4)] [] u
  | 0, _, _, _, _, _, h => by cases h
  | n + 1, u, a0, x2, x3, x4, h => pX9_reckonAll_10 (prX9_reckonAll_10 n) u a0 x2 x3 x4 h
def fX9_reckonAll (u : Mm) (a0 : Nat) (x1 : Int32) (x2 : Int32) : Option (Unit × Mm) := oK u a0 9 54 (oZ 0 (oU (wI u a0 (upd (mI u a0) 38 0)) (fun u1 => rX9_reckonAll_10 hwF u1 a0 x2 0 x1)))
set_option maxRecDepth 100000 in
set_option maxHeartbeats 4000000 in
theorem tX9_reckonAll {u : Mm} {a0 : Nat} {x1 : Int32} {x2 : Int32} {r : Unit} {u' : Mm} (h : fX9_reckonAll u a0 x1 x2 = some (r, u')) : Ev 1 MX9_reckonAll 0 0 [.ref a0, .int x1, .int x2] u (none, u') := by
  refine Ev.of (by decide +kernel) (Nat.le_of_ble_eq_true rfl) (show Eg MX9_reckonAll 1 0 0 (none, u') 0 [(0, .ref a0), (1, .int x1), (2, .int x2)] [] u from ?_)
  unfold fX9_reckonAll at h
  refine E_aload_n dX9_reckonAll_0 rfl rfl ?_
  refine E_iconst (v := 0) dX9_reckonAll_1 (by decide) ?_
  refine E_putZ h dX9_reckonAll_2 cf9 lk_X9_368 (by decide) (Or.inl rfl) rfl (fun h => ?_)
  refine E_oU h (fun u1 h => ?_)
  refine E_iconst (v := 0) dX9_reckonAll_5 (by decide) ?_
  refine E_istore_n (l' := [(3, .int 0), (0, .ref a0), (1, .int x1), (2, .int x2)]) dX9_reckonAll_6 rfl (Nat.le_of_ble_eq_true rfl) rfl ?_
  refine E_iload_n dX9_reckonAll_7 rfl rfl ?_
  refine E_istore (l' := [(4, .int x1), (3, .int 0), (0, .ref a0), (1, .int x1), (2, .int x2)]) dX9_reckonAll_8 (Nat.le_of_ble_eq_true rfl) rfl ?_
  refine Eg.pick [2, 4, 1, 0] rfl ?_
  exact prX9_reckonAll_10 _ _ _ _ _ _ h
def bX9_isSo_109 (u : Mm) (s0 : Int32) : Option (Int32 × Mm) := oZ s0 (some (s0, u))
set_option maxRecDepth 100000 in
set_option maxHeartbeats 4000000 in
theorem pX9_isSo_109 {r : Int32} {u' : Mm} (u : Mm) (s0 : Int32) (h : bX9_isSo_109 u s0 = some (r, u')) : Eg MX9_isSo 2 0 0 (some (.int r), u') 109 [] [.int s0] u := by
  unfold bX9_isSo_109 at h
  exact E_zret h dX9_isSo_109 rfl
def bX9_isSo_59 (u : Mm) (a0 : Nat) (x1 : Int32) : Option (Int32 × Mm) := oK u a0 9 54 (oNn (mR u a0 3) (fun e5 => oA u e5 10 x1 (oI (mI u e5 (Int32.toNatClampNeg x1)) (fun v6 => (if (v6 : Int32) = 3 then oZ 1 (some (1, u)) else oK u a0 9 54 (oNn (mR u a0 3) (fun e7 => oA u e7 10 (x1 + 3) (oI (mI u e7 (Int32.toNatClampNeg (x1 + 3))) (fun v8 => oK u a0 9 54 (oNn (mR u a0 3) (fun e9 => oA u e9 10 (x1 + 4) (oI (mI u e9 (Int32.toNatClampNeg (x1 + 4))) (fun v10 => oR u a0 9 (oB (fX9_reckonAll u a0 v8 v10) (fun _ u11 => oK u11 a0 9 54 (oJ (mL u11 a0 39) (fun w12 => oK u11 a0 9 54 (oU (wL u11 a0 (vp_updL (mL u11 a0) 40 w12)) (fun u13 => oK u13 a0 9 54 (oI (mI u13 a0 38) (fun v14 => (if (v14 : Int32) = 0 then bX9_isSo_109 u13 1 else bX9_isSo_109 u13 0))))))))))))))))))))))
set_option maxRecDepth 100000 in
set_option maxHeartbeats 4000000 in
theorem pX9_isSo_59 {r : Int32} {u' : Mm} (u : Mm) (a0 : Nat) (x1 : Int32) (h : bX9_isSo_59 u a0 x1 = some (r, u')) : Eg MX9_isSo 2 0 0 (some (.int r), u') 59 [(0, .ref a0), (1, .int x1)] [] u := by
  unfold bX9_isSo_59 at h
  refine E_aload_n dX9_isSo_59 rfl rfl ?_
  refine E_getA h dX9_isSo_60 cf9 lk_X9_13 (by decide) (fun _ _ _ => rfl) (fun e5 h => ?_)
  refine E_iload_n dX9_isSo_63 rfl rfl ?_
  refine E_iald h dX9_isSo_64 (fun h => ?_)
  refine E_oI h (fun v6 h => ?_)
  refine E_iconst (v := 3) dX9_isSo_65 (by decide) ?_
  refine E_ic_eq (tgt := 110) h dX9_isSo_66 (by decide) (fun h => ?_) (fun h => ?_)
  · refine E_iconst (v := 1) dX9_isSo_110 (by decide) ?_
    exact E_zret h dX9_isSo_111 rfl
  · refine E_aload_n dX9_isSo_69 rfl rfl ?_
    refine E_aload_n dX9_isSo_70 rfl rfl ?_
    refine E_getA h dX9_isSo_71 cf9 lk_X9_13 (by decide) (fun _ _ _ => rfl) (fun e7 h => ?_)
    refine E_iload_n dX9_isSo_74 rfl rfl ?_
    refine E_iconst (v := 3) dX9_isSo_75 (by decide) ?_
    refine E_iadd dX9_isSo_76 ?_
    refine E_iald h dX9_isSo_77 (fun h => ?_)
    refine E_oI h (fun v8 h => ?_)
    refine E_aload_n dX9_isSo_78 rfl rfl ?_
    refine E_getA h dX9_isSo_79 cf9 lk_X9_13 (by decide) (fun _ _ _ => rfl) (fun e9 h => ?_)
    refine E_iload_n dX9_isSo_82 rfl rfl ?_
    refine E_iconst (v := 4) dX9_isSo_83 (by decide) ?_
    refine E_iadd dX9_isSo_84 ?_
    refine E_iald h dX9_isSo_85 (fun h => ?_)
    refine E_oI h (fun v10 h => ?_)
    refine F_Vv h (fun m e => tX9_reckonAll e) dX9_isSo_86 hm_X9_reckonAll hv_X9_reckonAll ln_X9_385 rfl rfl (Nat.le_of_ble_eq_true rfl) (Nat.le_of_ble_eq_true rfl) (kc' := 0) (ks' := 0) rfl rfl (fun u11 h => ?_)
    refine E_aload_n dX9_isSo_89 rfl rfl ?_
    refine E_aload_n dX9_isSo_90 rfl rfl ?_
    refine E_getL h dX9_isSo_91 cf9 lk_X9_382 (by decide) (fun _ _ _ => rfl) (fun h => ?_)
    refine E_oJ h (fun w12 h => ?_)
    refine E_putL h dX9_isSo_94 cf9 lk_X9_388 (by decide) (Or.inl rfl) rfl (fun h => ?_)
    refine E_oU h (fun u13 h => ?_)
    refine E_aload_n dX9_isSo_97 rfl rfl ?_
    refine E_getI h dX9_isSo_98 cf9 lk_X9_368 (by decide) (fun _ _ _ => rfl) (fun h => ?_)
    refine E_oI h (fun v14 h => ?_)
    refine E_if_ne (tgt := 108) h dX9_isSo_101 (by decide) (fun h => ?_) (fun h => ?_)
    · refine E_iconst (v := 0) dX9_isSo_108 (by decide) ?_
      refine Eg.pick [] rfl ?_
      exact pX9_isSo_109 _ _ h
    · refine E_iconst (v := 1) dX9_isSo_104 (by decide) ?_
      refine E_goto (tgt := 109) dX9_isSo_105 (by decide) ?_
      refine Eg.pick [] rfl ?_
      exact pX9_isSo_109 _ _ h
def fX9_isSo (u : Mm) (a0 : Nat) (x1 : Int32) : Option (Int32 × Mm) := oK u a0 9 54 (oNn (mR u a0 3) (fun e1 => oA u e1 10 (x1 + 5) (oI (mI u e1 (Int32.toNatClampNeg (x1 + 5))) (fun v2 => oK u a0 9 54 (oNn (mR u a0 3) (fun e3 => oA u e3 10 (x1 + 6) (oI (mI u e3 (Int32.toNatClampNeg (x1 + 6))) (fun v4 => (if (v4 : Int32) ≤ v2 then bX9_isSo_59 u a0 x1 else oK u a0 9 54 (oNn (mR u a0 3) (fun e15 => oA u e15 10 (x1 + 5) (oI (mI u e15 (Int32.toNatClampNeg (x1 + 5))) (fun v16 => oK u a0 9 54 (oNn (mR u a0 3) (fun e17 => oA u e17 10 (x1 + 6) (oI (mI u e17 (Int32.toNatClampNeg (x1 + 6))) (fun v18 => oR u a0 9 (oB (fX9_reckonAll u a0 v16 v18) (fun _ u19 => oK u19 a0 9 54 (oI (mI u19 a0 38) (fun v20 => (if (v20 : Int32) = 0 then oK u19 a0 9 54 (oJ (mL u19 a0 39) (fun w21 => (if (lg_cmp w21 0 : Int32) = 0 then oZ 0 (some (0, u19)) else bX9_isSo_59 u19 a0 x1))) else oZ 0 (some (0, u19))))))))))))))))))))))))
set_option maxRecDepth 100000 in
set_option maxHeartbeats 4000000 in
theorem tX9_isSo {u : Mm} {a0 : Nat} {x1 : Int32} {r : Int32} {u' : Mm} (h : fX9_isSo u a0 x1 = some (r, u')) : Ev 2 MX9_isSo 0 0 [.ref a0, .int x1] u (some (.int r), u') := by
  refine Ev.of (by decide +kernel) (Nat.le_of_ble_eq_true rfl) (show Eg MX9_isSo 2 0 0 (some (.int r), u') 0 [(0, .ref a0), (1, .int x1)] [] u from ?_)
  unfold fX9_isSo at h
  refine E_aload_n dX9_isSo_0 rfl rfl ?_
  refine E_getA h dX9_isSo_1 cf9 lk_X9_13 (by decide) (fun _ _ _ => rfl) (fun e1 h => ?_)
  refine E_iload_n dX9_isSo_4 rfl rfl ?_
  refine E_iconst (v := 5) dX9_isSo_5 (by decide) ?_
  refine E_iadd dX9_isSo_6 ?_
  refine E_iald h dX9_isSo_7 (fun h => ?_)
  refine E_oI h (fun v2 h => ?_)
  refine E_aload_n dX9_isSo_8 rfl rfl ?_
  refine E_getA h dX9_isSo_9 cf9 lk_X9_13 (by decide) (fun _ _ _ => rfl) (fun e3 h => ?_)
  refine E_iload_n dX9_isSo_12 rfl rfl ?_
  refine E_bipush (v := 6) dX9_isSo_13 (by decide) ?_
  refine E_iadd dX9_isSo_15 ?_
  refine E_iald h dX9_isSo_16 (fun h => ?_)
  refine E_oI h (fun v4 h => ?_)
  refine E_ic_ge (tgt := 59) h dX9_isSo_17 (by decide) (fun h => ?_) (fun h => ?_)
  · refine Eg.pick [0, 1] rfl ?_
    exact pX9_isSo_59 _ _ _ h
  · refine E_aload_n dX9_isSo_20 rfl rfl ?_
    refine E_aload_n dX9_isSo_21 rfl rfl ?_
    refine E_getA h dX9_isSo_22 cf9 lk_X9_13 (by decide) (fun _ _ _ => rfl) (fun e15 h => ?_)
    refine E_iload_n dX9_isSo_25 rfl rfl ?_
    refine E_iconst (v := 5) dX9_isSo_26 (by decide) ?_
    refine E_iadd dX9_isSo_27 ?_
    refine E_iald h dX9_isSo_28 (fun h => ?_)
    refine E_oI h (fun v16 h => ?_)
    refine E_aload_n dX9_isSo_29 rfl rfl ?_
    refine E_getA h dX9_isSo_30 cf9 lk_X9_13 (by decide) (fun _ _ _ => rfl) (fun e17 h => ?_)
    refine E_iload_n dX9_isSo_33 rfl rfl ?_
    refine E_bipush (v := 6) dX9_isSo_34 (by decide) ?_
    refine E_iadd dX9_isSo_36 ?_
    refine E_iald h dX9_isSo_37 (fun h => ?_)
    refine E_oI h (fun v18 h => ?_)
    refine F_Vv h (fun m e => tX9_reckonAll e) dX9_isSo_38 hm_X9_reckonAll hv_X9_reckonAll ln_X9_385 rfl rfl (Nat.le_of_ble_eq_true rfl) (Nat.le_of_ble_eq_true rfl) (kc' := 0) (ks' := 0) rfl rfl (fun u19 h => ?_)
    refine E_aload_n dX9_isSo_41 rfl rfl ?_
    refine E_getI h dX9_isSo_42 cf9 lk_X9_368 (by decide) (fun _ _ _ => rfl) (fun h => ?_)
    refine E_oI h (fun v20 h => ?_)
    refine E_if_ne (tgt := 57) h dX9_isSo_45 (by decide) (fun h => ?_) (fun h => ?_)
    · refine E_iconst (v := 0) dX9_isSo_57 (by decide) ?_
      exact E_zret h dX9_isSo_58 rfl
    · refine E_aload_n dX9_isSo_48 rfl rfl ?_
      refine E_getL h dX9_isSo_49 cf9 lk_X9_382 (by decide) (fun _ _ _ => rfl) (fun h => ?_)
      refine E_oJ h (fun w21 h => ?_)
      refine E_lconst (v := 0) dX9_isSo_52 (by decide) ?_
      refine E_lcmp dX9_isSo_53 ?_
      refine E_if_ne (tgt := 59) h dX9_isSo_54 (by decide) (fun h => ?_) (fun h => ?_)
      · refine Eg.pick [0, 1] rfl ?_
        exact pX9_isSo_59 _ _ _ h
      · refine E_iconst (v := 0) dX9_isSo_57 (by decide) ?_
        exact E_zret h dX9_isSo_58 rfl
def bX9_tells_254 (k189 : Mm → Nat → Int32 → Int64 → Int32 → Option (Int64 × Mm)) (u : Mm) (a0 : Nat) (x1 : Int32) (y8 : Int64) (x10 : Int32) : Option (Int64 × Mm) := k189 u a0 x1 y8 (x10 + 1)
set_option maxRecDepth 100000 in
set_option maxHeartbeats 4000000 in
theorem pX9_tells_254 {r : Int64} {u' : Mm} {k189 : Mm → Nat → Int32 → Int64 → Int32 → Option (Int64 × Mm)} (hk189 : ∀ (u : Mm) (a0 : Nat) (x1 : Int32) (y8 : Int64) (x10 : Int32), k189 u a0 x1 y8 x10 = some (r, u') → Eg MX9_tells 3 0 0 (some (.long r), u') 189 [(0, .ref a0), (1, .int x1), (8, .long y8), (10, .int x10)] [] u) (u : Mm) (a0 : Nat) (x1 : Int32) (y8 : Int64) (x10 : Int32) (h : bX9_tells_254 k189 u a0 x1 y8 x10 = some (r, u')) : Eg MX9_tells 3 0 0 (some (.long r), u') 254 [(0, .ref a0), (1, .int x1), (8, .long y8), (10, .int x10)] [] u := by
  unfold bX9_tells_254 at h
  refine E_iinc (j := 3) (v := x10 + 1) (l' := [(10, .int (x10 + 1)), (0, .ref a0), (1, .int x1), (8, .long y8)]) dX9_tells_254 rfl (addI (by decide)) (Nat.le_of_ble_eq_true rfl) rfl ?_
  refine E_goto (tgt := 189) dX9_tells_257 (by decide) ?_
  refine Eg.pick [1, 2, 3, 0] rfl ?_
  exact hk189 _ _ _ _ _ h
def bX9_tells_252 (k189 : Mm → Nat → Int32 → Int64 → Int32 → Option (Int64 × Mm)) (u : Mm) (a0 : Nat) (x1 : Int32) (x10 : Int32) (s0 : Int64) : Option (Int64 × Mm) := bX9_tells_254 k189 u a0 x1 s0 x10
set_option maxRecDepth 100000 in
set_option maxHeartbeats 4000000 in
theorem pX9_tells_252 {r : Int64} {u' : Mm} {k189 : Mm → Nat → Int32 → Int64 → Int32 → Option (Int64 × Mm)} (hk189 : ∀ (u : Mm) (a0 : Nat) (x1 : Int32) (y8 : Int64) (x10 : Int32), k189 u a0 x1 y8 x10 = some (r, u') → Eg MX9_tells 3 0 0 (some (.long r), u') 189 [(0, .ref a0), (1, .int x1), (8, .long y8), (10, .int x10)] [] u) (u : Mm) (a0 : Nat) (x1 : Int32) (x10 : Int32) (s0 : Int64) (h : bX9_tells_252 k189 u a0 x1 x10 s0 = some (r, u')) : Eg MX9_tells 3 0 0 (some (.long r), u') 252 [(0, .ref a0), (1, .int x1), (10, .int x10)] [.long s0] u := by
  unfold bX9_tells_252 at h
  refine E_lstore (l' := [(8, .long s0), (0, .ref a0), (1, .int x1), (10, .int x10)]) dX9_tells_252 (Nat.le_of_ble_eq_true rfl) rfl ?_
  refine Eg.pick [1, 2, 0, 3] rfl ?_
  exact pX9_tells_254 hk189 _ _ _ _ _ h
def bX9_tells_189 (k189 : Mm → Nat → Int32 → Int64 → Int32 → Option (Int64 × Mm)) (u : Mm) (a0 : Nat) (x1 : Int32) (y8 : Int64) (x10 : Int32) : Option (Int64 × Mm) := oK u a0 9 54 (oNn (mR u a0 3) (fun e38 => oK u a0 9 54 (oI (mI u a0 34) (fun v39 => oA u e38 10 (v39 + 1) (oI (mI u e38 (Int32.toNatClampNeg (v39 + 1))) (fun v40 => (if (v40 : Int32) ≤ x10 then some (y8, u) else oK u a0 9 54 (oI (mI u a0 34) (fun v41 => oI ((v41 + 2) + ((8 : Int32) * x10)) (fun v42 => oK u a0 9 54 (oNn (mR u a0 3) (fun e43 => oA u e43 10 v42 (oI (mI u e43 (Int32.toNatClampNeg v42)) (fun v44 => (if (v44 : Int32) = x1 then oR u a0 9 (oB (fX9_isSo u a0 v42) (fun v45 u46 => (if (v45 : Int32) = 0 then bX9_tells_254 k189 u46 a0 x1 y8 x10 else (if (x1 : Int32) = 3 then bX9_tells_252 k189 u46 a0 x1 x10 1 else oK u46 a0 9 54 (oJ (mL u46 a0 40) (fun w47 => bX9_tells_252 k189 u46 a0 x1 x10 w47)))))) else bX9_tells_254 k189 u a0 x1 y8 x10)))))))))))))))
set_option maxRecDepth 100000 in
set_option maxHeartbeats 4000000 in
theorem pX9_tells_189 {r : Int64} {u' : Mm} {k189 : Mm → Nat → Int32 → Int64 → Int32 → Option (Int64 × Mm)} (hk189 : ∀ (u : Mm) (a0 : Nat) (x1 : Int32) (y8 : Int64) (x10 : Int32), k189 u a0 x1 y8 x10 = some (r, u') → Eg MX9_tells 3 0 0 (some (.long r), u') 189 [(0, .ref a0), (1, .int x1), (8, .long y8), (10, .int x10)] [] u) (u : Mm) (a0 : Nat) (x1 : Int32) (y8 : Int64) (x10 : Int32) (h : bX9_tells_189 k189 u a0 x1 y8 x10 = some (r, u')) : Eg MX9_tells 3 0 0 (some (.long r), u') 189 [(0, .ref a0), (1, .int x1), (8, .long y8), (10, .int x10)] [] u := by
  unfold bX9_tells_189 at h
  refine E_iload dX9_tells_189 rfl ?_
  refine E_aload_n dX9_tells_191 rfl rfl ?_
  refine E_getA h dX9_tells_192 cf9 lk_X9_13 (by decide) (fun _ _ _ => rfl) (fun e38 h => ?_)
  refine E_aload_n dX9_tells_195 rfl rfl ?_
  refine E_getI h dX9_tells_196 cf9 lk_X9_371 (by decide) (fun _ _ _ => rfl) (fun h => ?_)
  refine E_oI h (fun v39 h => ?_)
  refine E_iconst (v := 1) dX9_tells_199 (by decide) ?_
  refine E_iadd dX9_tells_200 ?_
  refine E_iald h dX9_tells_201 (fun h => ?_)
  refine E_oI h (fun v40 h => ?_)
  refine E_ic_ge (tgt := 260) h dX9_tells_202 (by decide) (fun h => ?_) (fun h => ?_)
  · refine E_lload dX9_tells_260 rfl ?_
    exact E_lret h dX9_tells_262 rfl
  · refine E_aload_n dX9_tells_205 rfl rfl ?_
    refine E_getI h dX9_tells_206 cf9 lk_X9_371 (by decide) (fun _ _ _ => rfl) (fun h => ?_)
    refine E_oI h (fun v41 h => ?_)
    refine E_iconst (v := 2) dX9_tells_209 (by decide) ?_
    refine E_iadd dX9_tells_210 ?_
    refine E_bipush (v := 8) dX9_tells_211 (by decide) ?_
    refine E_iload dX9_tells_213 rfl ?_
    refine E_imul dX9_tells_215 ?_
    refine E_iadd dX9_tells_216 ?_
    refine E_oI h (fun v42 h => ?_)
    refine E_istore (l' := [(11, .int v42), (0, .ref a0), (1, .int x1), (8, .long y8), (10, .int x10)]) dX9_tells_217 (Nat.le_of_ble_eq_true rfl) rfl ?_
    refine E_aload_n dX9_tells_219 rfl rfl ?_
    refine E_getA h dX9_tells_220 cf9 lk_X9_13 (by decide) (fun _ _ _ => rfl) (fun e43 h => ?_)
    refine E_iload dX9_tells_223 rfl ?_
    refine E_iald h dX9_tells_225 (fun h => ?_)
    refine E_oI h (fun v44 h => ?_)
    refine E_iload_n dX9_tells_226 rfl rfl ?_
    refine E_ic_ne (tgt := 254) h dX9_tells_227 (by decide) (fun h => ?_) (fun h => ?_)
    · refine Eg.pick [1, 2, 3, 4] rfl ?_
      exact pX9_tells_254 hk189 _ _ _ _ _ h
    · refine E_aload_n dX9_tells_230 rfl rfl ?_
      refine E_iload dX9_tells_231 rfl ?_
      refine F_Vi h (fun a m e => tX9_isSo e) dX9_tells_233 hm_X9_isSo hv_X9_isSo ln_X9_391 rfl rfl (Nat.le_of_ble_eq_true rfl) (Nat.le_of_ble_eq_true rfl) (kc' := 0) (ks' := 0) rfl rfl (fun v45 u46 h => ?_)
      refine E_if_eq (tgt := 254) h dX9_tells_236 (by decide) (fun h => ?_) (fun h => ?_)
      · refine Eg.pick [1, 2, 3, 4] rfl ?_
        exact pX9_tells_254 hk189 _ _ _ _ _ h
      · refine E_iload_n dX9_tells_239 rfl rfl ?_
        refine E_iconst (v := 3) dX9_tells_240 (by decide) ?_
        refine E_ic_ne (tgt := 248) h dX9_tells_241 (by decide) (fun h => ?_) (fun h => ?_)
        · refine E_aload_n dX9_tells_248 rfl rfl ?_
          refine E_getL h dX9_tells_249 cf9 lk_X9_388 (by decide) (fun _ _ _ => rfl) (fun h => ?_)
          refine E_oJ h (fun w47 h => ?_)
          refine Eg.pick [1, 2, 4] rfl ?_
          exact pX9_tells_252 hk189 _ _ _ _ _ h
        · refine E_lconst (v := 1) dX9_tells_244 (by decide) ?_
          refine E_goto (tgt := 252) dX9_tells_245 (by decide) ?_
          refine Eg.pick [1, 2, 4] rfl ?_
          exact pX9_tells_252 hk189 _ _ _ _ _ h
def rX9_tells_189 : Nat → Mm → Nat → Int32 → Int64 → Int32 → Option (Int64 × Mm)
  | 0, _, _, _, _, _ => none
  | n + 1, u, a0, x1, y8, x10 => bX9_tells_189 (rX9_tells_189 n) u a0 x1 y8 x10
theorem prX9_tells_189 {r : Int64} {u' : Mm} : ∀ (n : Nat) (u : Mm) (a0 : Nat) (x1 : Int32) (y8 : Int64) (x10 : Int32), rX9_tells_189 n u a0 x1 y8 x10 = some (r, u') → Eg MX9_tells 3 0 0 (some (.long r), u') 189 [(0, .ref a0), (1, .int x1), (8, .long y8), (10, .int x10)] [] u
  | 0, _, _, _, _, _, h => by cases h
  | n + 1, u, a0, x1, y8, x10, h => pX9_tells_189 (prX9_tells_189 n) u a0 x1 y8 x10 h
def bX9_tells_108 (u : Mm) (a0 : Nat) (x1 : Int32) (x2 : Int32) (x4 : Int32) (y6 : Int64) (s0 : Int64) (s1 : Int32) (s2 : Nat) : Option (Int64 × Mm) := oA u s2 11 s1 (oU (wL u s2 (vp_updL (mL u s2) (Int32.toNatClampNeg s1) s0)) (fun u19 => oK u19 a0 9 54 (oNn (mR u19 a0 35) (fun e20 => oK u19 a0 9 54 (oNn (mR u19 a0 3) (fun e21 => oA u19 e21 10 ((31 : Int32) + x2) (oI (mI u19 e21 (Int32.toNatClampNeg ((31 : Int32) + x2))) (fun v22 => oA u19 e20 11 6 (oU (wL u19 e20 (vp_updL (mL u19 e20) (Int32.toNatClampNeg 6) (Int32.toInt64 v22))) (fun u23 => oK u23 a0 9 54 (oNn (mR u23 a0 35) (fun e24 => oK u23 a0 9 54 (oNn (mR u23 a0 3) (fun e25 => oA u23 e25 10 ((33 : Int32) + x2) (oI (mI u23 e25 (Int32.toNatClampNeg ((33 : Int32) + x2))) (fun v26 => oA u23 e24 11 7 (oU (wL u23 e24 (vp_updL (mL u23 e24) (Int32.toNatClampNeg 7) (Int32.toInt64 v26))) (fun u27 => oK u27 a0 9 54 (oNn (mR u27 a0 35) (fun e28 => oA u27 e28 11 8 (oU (wL u27 e28 (vp_updL (mL u27 e28) (Int32.toNatClampNeg 8) (Int32.toInt64 x4))) (fun u29 => oK u29 a0 9 54 (oNn (mR u29 a0 35) (fun e30 => oK u29 a0 9 54 (oNn (mR u29 a0 3) (fun e31 => oA u29 e31 10 4 (oI (mI u29 e31 (Int32.toNatClampNeg 4)) (fun v32 => oA u29 e30 11 9 (oU (wL u29 e30 (vp_updL (mL u29 e30) (Int32.toNatClampNeg 9) (Int32.toInt64 v32))) (fun u33 => oK u33 a0 9 54 (oNn (mR u33 a0 35) (fun e34 => oK u33 a0 9 54 (oNn (mR u33 a0 3) (fun e35 => oA u33 e35 10 6 (oI (mI u33 e35 (Int32.toNatClampNeg 6)) (fun v36 => oA u33 e34 11 10 (oU (wL u33 e34 (vp_updL (mL u33 e34) (Int32.toNatClampNeg 10) (Int32.toInt64 v36))) (fun u37 => rX9_tells_189 hwF u37 a0 x1 y6 0))))))))))))))))))))))))))))))))))))))
set_option maxRecDepth 100000 in
set_option maxHeartbeats 4000000 in
theorem pX9_tells_108 {r : Int64} {u' : Mm} (u : Mm) (a0 : Nat) (x1 : Int32) (x2 : Int32) (x4 : Int32) (y6 : Int64) (s0 : Int64) (s1 : Int32) (s2 : Nat) (h : bX9_tells_108 u a0 x1 x2 x4 y6 s0 s1 s2 = some (r, u')) : Eg MX9_tells 3 0 0 (some (.long r), u') 108 [(0, .ref a0), (1, .int x1), (2, .int x2), (4, .int x4), (6, .long y6)] [.long s0, .int s1, .ref s2] u := by
  unfold bX9_tells_108 at h
  refine E_last h dX9_tells_108 (fun h => ?_)
  refine E_oU h (fun u19 h => ?_)
  refine E_aload_n dX9_tells_109 rfl rfl ?_
  refine E_getA h dX9_tells_110 cf9 lk_X9_99 (by decide) (fun _ _ _ => rfl) (fun e20 h => ?_)
  refine E_bipush (v := 6) dX9_tells_113 (by decide) ?_
  refine E_aload_n dX9_tells_115 rfl rfl ?_
  refine E_getA h dX9_tells_116 cf9 lk_X9_13 (by decide) (fun _ _ _ => rfl) (fun e21 h => ?_)
  refine E_bipush (v := 31) dX9_tells_119 (by decide) ?_
  refine E_iload_n dX9_tells_121 rfl rfl ?_
  refine E_iadd dX9_tells_122 ?_
  refine E_iald h dX9_tells_123 (fun h => ?_)
  refine E_oI h (fun v22 h => ?_)
  refine E_i2l dX9_tells_124 ?_
  refine E_last h dX9_tells_125 (fun h => ?_)
  refine E_oU h (fun u23 h => ?_)
  refine E_aload_n dX9_tells_126 rfl rfl ?_
  refine E_getA h dX9_tells_127 cf9 lk_X9_99 (by decide) (fun _ _ _ => rfl) (fun e24 h => ?_)
  refine E_bipush (v := 7) dX9_tells_130 (by decide) ?_
  refine E_aload_n dX9_tells_132 rfl rfl ?_
  refine E_getA h dX9_tells_133 cf9 lk_X9_13 (by decide) (fun _ _ _ => rfl) (fun e25 h => ?_)
  refine E_bipush (v := 33) dX9_tells_136 (by decide) ?_
  refine E_iload_n dX9_tells_138 rfl rfl ?_
  refine E_iadd dX9_tells_139 ?_
  refine E_iald h dX9_tells_140 (fun h => ?_)
  refine E_oI h (fun v26 h => ?_)
  refine E_i2l dX9_tells_141 ?_
  refine E_last h dX9_tells_142 (fun h => ?_)
  refine E_oU h (fun u27 h => ?_)
  refine E_aload_n dX9_tells_143 rfl rfl ?_
  refine E_getA h dX9_tells_144 cf9 lk_X9_99 (by decide) (fun _ _ _ => rfl) (fun e28 h => ?_)
  refine E_bipush (v := 8) dX9_tells_147 (by decide) ?_
  refine E_iload dX9_tells_149 rfl ?_
  refine E_i2l dX9_tells_151 ?_
  refine E_last h dX9_tells_152 (fun h => ?_)
  refine E_oU h (fun u29 h => ?_)
  refine E_aload_n dX9_tells_153 rfl rfl ?_
  refine E_getA h dX9_tells_154 cf9 lk_X9_99 (by decide) (fun _ _ _ => rfl) (fun e30 h => ?_)
  refine E_bipush (v := 9) dX9_tells_157 (by decide) ?_
  refine E_aload_n dX9_tells_159 rfl rfl ?_
  refine E_getA h dX9_tells_160 cf9 lk_X9_13 (by decide) (fun _ _ _ => rfl) (fun e31 h => ?_)
  refine E_iconst (v := 4) dX9_tells_163 (by decide) ?_
  refine E_iald h dX9_tells_164 (fun h => ?_)
  refine E_oI h (fun v32 h => ?_)
  refine E_i2l dX9_tells_165 ?_
  refine E_last h dX9_tells_166 (fun h => ?_)
  refine E_oU h (fun u33 h => ?_)
  refine E_aload_n dX9_tells_167 rfl rfl ?_
  refine E_getA h dX9_tells_168 cf9 lk_X9_99 (by decide) (fun _ _ _ => rfl) (fun e34 h => ?_)
  refine E_bipush (v := 10) dX9_tells_171 (by decide) ?_
  refine E_aload_n dX9_tells_173 rfl rfl ?_
  refine E_getA h dX9_tells_174 cf9 lk_X9_13 (by decide) (fun _ _ _ => rfl) (fun e35 h => ?_)
  refine E_bipush (v := 6) dX9_tells_177 (by decide) ?_
  refine E_iald h dX9_tells_179 (fun h => ?_)
  refine E_oI h (fun v36 h => ?_)
  refine E_i2l dX9_tells_180 ?_
  refine E_last h dX9_tells_181 (fun h => ?_)
  refine E_oU h (fun u37 h => ?_)
  refine E_lload dX9_tells_182 rfl ?_
  refine E_lstore (l' := [(8, .long y6), (0, .ref a0), (1, .int x1), (2, .int x2), (4, .int x4), (6, .long y6)]) dX9_tells_184 (Nat.le_of_ble_eq_true rfl) rfl ?_
  refine E_iconst (v := 0) dX9_tells_186 (by decide) ?_
  refine E_istore (l' := [(10, .int 0), (8, .long y6), (0, .ref a0), (1, .int x1), (2, .int x2), (4, .int x4), (6, .long y6)]) dX9_tells_187 (Nat.le_of_ble_eq_true rfl) rfl ?_
  refine Eg.pick [2, 3, 1, 0] rfl ?_
  exact prX9_tells_189 _ _ _ _ _ _ h
def bX9_tells_73 (u : Mm) (a0 : Nat) (x1 : Int32) (x2 : Int32) (x3 : Int32) (x4 : Int32) (x5 : Int32) (y6 : Int64) (s0 : Int64) (s1 : Int32) (s2 : Nat) : Option (Int64 × Mm) := oA u s2 11 s1 (oU (wL u s2 (vp_updL (mL u s2) (Int32.toNatClampNeg s1) s0)) (fun u13 => oK u13 a0 9 54 (oNn (mR u13 a0 35) (fun e14 => oA u13 e14 11 4 (oU (wL u13 e14 (vp_updL (mL u13 e14) (Int32.toNatClampNeg 4) (Int32.toInt64 x5))) (fun u15 => oK u15 a0 9 54 (oNn (mR u15 a0 35) (fun e16 => (if (x3 : Int32) = ((-1)) then bX9_tells_108 u15 a0 x1 x2 x4 y6 ((-1)) 5 e16 else oR u15 a0 9 (oB (fX9_menOf u15 a0 ((1 : Int32) - x2) x3) (fun v17 u18 => bX9_tells_108 u18 a0 x1 x2 x4 y6 (Int32.toInt64 v17) 5 e16)))))))))))
set_option maxRecDepth 100000 in
set_option maxHeartbeats 4000000 in
theorem pX9_tells_73 {r : Int64} {u' : Mm} (u : Mm) (a0 : Nat) (x1 : Int32) (x2 : Int32) (x3 : Int32) (x4 : Int32) (x5 : Int32) (y6 : Int64) (s0 : Int64) (s1 : Int32) (s2 : Nat) (h : bX9_tells_73 u a0 x1 x2 x3 x4 x5 y6 s0 s1 s2 = some (r, u')) : Eg MX9_tells 3 0 0 (some (.long r), u') 73 [(0, .ref a0), (1, .int x1), (2, .int x2), (3, .int x3), (4, .int x4), (5, .int x5), (6, .long y6)] [.long s0, .int s1, .ref s2] u := by
  unfold bX9_tells_73 at h
  refine E_last h dX9_tells_73 (fun h => ?_)
  refine E_oU h (fun u13 h => ?_)
  refine E_aload_n dX9_tells_74 rfl rfl ?_
  refine E_getA h dX9_tells_75 cf9 lk_X9_99 (by decide) (fun _ _ _ => rfl) (fun e14 h => ?_)
  refine E_iconst (v := 4) dX9_tells_78 (by decide) ?_
  refine E_iload dX9_tells_79 rfl ?_
  refine E_i2l dX9_tells_81 ?_
  refine E_last h dX9_tells_82 (fun h => ?_)
  refine E_oU h (fun u15 h => ?_)
  refine E_aload_n dX9_tells_83 rfl rfl ?_
  refine E_getA h dX9_tells_84 cf9 lk_X9_99 (by decide) (fun _ _ _ => rfl) (fun e16 h => ?_)
  refine E_iconst (v := 5) dX9_tells_87 (by decide) ?_
  refine E_iload_n dX9_tells_88 rfl rfl ?_
  refine E_iconst (v := (-1)) dX9_tells_89 (by decide) ?_
  refine E_ic_ne (tgt := 99) h dX9_tells_90 (by decide) (fun h => ?_) (fun h => ?_)
  · refine E_aload_n dX9_tells_99 rfl rfl ?_
    refine E_iconst (v := 1) dX9_tells_100 (by decide) ?_
    refine E_iload_n dX9_tells_101 rfl rfl ?_
    refine E_isub dX9_tells_102 ?_
    refine E_iload_n dX9_tells_103 rfl rfl ?_
    refine F_Vi h (fun a m e => tX9_menOf e) dX9_tells_104 hm_X9_menOf hv_X9_menOf ln_X9_163 rfl rfl (Nat.le_of_ble_eq_true rfl) (Nat.le_of_ble_eq_true rfl) (kc' := 0) (ks' := 0) rfl rfl (fun v17 u18 h => ?_)
    refine E_i2l dX9_tells_107 ?_
    refine Eg.pick [0, 1, 2, 4, 6] rfl ?_
    exact pX9_tells_108 _ _ _ _ _ _ _ _ _ h
  · refine E_ldc2 dX9_tells_93 rfl cn_X9_196 ?_
    refine E_goto (tgt := 108) dX9_tells_96 (by decide) ?_
    refine Eg.pick [0, 1, 2, 4, 6] rfl ?_
    exact pX9_tells_108 _ _ _ _ _ _ _ _ _ h
def fX9_tells (u : Mm) (a0 : Nat) (x1 : Int32) (x2 : Int32) (x3 : Int32) (x4 : Int32) (x5 : Int32) (y6 : Int64) : Option (Int64 × Mm) := oK u a0 9 54 (oNn (mR u a0 3) (fun e1 => oA u e1 10 3 (oI (mI u e1 (Int32.toNatClampNeg 3)) (fun v2 => (if (v2 : Int32) = ((-1)) then some (y6, u) else oK u a0 9 54 (oNn (mR u a0 3) (fun e3 => oA u e3 10 3 (oI (mI u e3 (Int32.toNatClampNeg 3)) (fun v4 => oK u a0 9 54 (oU (wI u a0 (upd (mI u a0) 34 ((130 : Int32) + ((900 : Int32) * v4)))) (fun u5 => oK u5 a0 9 54 (oNn (mR u5 a0 35) (fun e6 => oA u5 e6 11 1 (oU (wL u5 e6 (vp_updL (mL u5 e6) (Int32.toNatClampNeg 1) (Int32.toInt64 x2))) (fun u7 => oK u7 a0 9 54 (oNn (mR u7 a0 35) (fun e8 => oA u7 e8 11 2 (oU (wL u7 e8 (vp_updL (mL u7 e8) (Int32.toNatClampNeg 2) (Int32.toInt64 x3))) (fun u9 => oK u9 a0 9 54 (oNn (mR u9 a0 35) (fun e10 => (if (x3 : Int32) = ((-1)) then bX9_tells_73 u9 a0 x1 x2 x3 x4 x5 y6 ((-1)) 3 e10 else oK u9 a0 9 54 (oNn (mR u9 a0 3) (fun e11 => oA u9 e11 10 ((7 : Int32) + x3) (oI (mI u9 e11 (Int32.toNatClampNeg ((7 : Int32) + x3))) (fun v12 => bX9_tells_73 u9 a0 x1 x2 x3 x4 x5 y6 (Int32.toInt64 v12) 3 e10))))))))))))))))))))))))))
set_option maxRecDepth 100000 in
set_option maxHeartbeats 4000000 in
theorem tX9_tells {u : Mm} {a0 : Nat} {x1 : Int32} {x2 : Int32} {x3 : Int32} {x4 : Int32} {x5 : Int32} {y6 : Int64} {r : Int64} {u' : Mm} (h : fX9_tells u a0 x1 x2 x3 x4 x5 y6 = some (r, u')) : Ev 3 MX9_tells 0 0 [.ref a0, .int x1, .int x2, .int x3, .int x4, .int x5, .long y6] u (some (.long r), u') := by
  refine Ev.of (by decide +kernel) (Nat.le_of_ble_eq_true rfl) (show Eg MX9_tells 3 0 0 (some (.long r), u') 0 [(0, .ref a0), (1, .int x1), (2, .int x2), (3, .int x3), (4, .int x4), (5, .int x5), (6, .long y6)] [] u from ?_)
  unfold fX9_tells at h
  refine E_aload_n dX9_tells_0 rfl rfl ?_
  refine E_getA h dX9_tells_1 cf9 lk_X9_13 (by decide) (fun _ _ _ => rfl) (fun e1 h => ?_)
  refine E_iconst (v := 3) dX9_tells_4 (by decide) ?_
  refine E_iald h dX9_tells_5 (fun h => ?_)
  refine E_oI h (fun v2 h => ?_)
  refine E_iconst (v := (-1)) dX9_tells_6 (by decide) ?_
  refine E_ic_ne (tgt := 13) h dX9_tells_7 (by decide) (fun h => ?_) (fun h => ?_)
  · refine E_aload_n dX9_tells_13 rfl rfl ?_
    refine E_sipush (v := 130) dX9_tells_14 (by decide) ?_
    refine E_sipush (v := 900) dX9_tells_17 (by decide) ?_
    refine E_aload_n dX9_tells_20 rfl rfl ?_
    refine E_getA h dX9_tells_21 cf9 lk_X9_13 (by decide) (fun _ _ _ => rfl) (fun e3 h => ?_)
    refine E_iconst (v := 3) dX9_tells_24 (by decide) ?_
    refine E_iald h dX9_tells_25 (fun h => ?_)
    refine E_oI h (fun v4 h => ?_)
    refine E_imul dX9_tells_26 ?_
    refine E_iadd dX9_tells_27 ?_
    refine E_putI h dX9_tells_28 cf9 lk_X9_371 (by decide) (Or.inl rfl) rfl (fun h => ?_)
    refine E_oU h (fun u5 h => ?_)
    refine E_aload_n dX9_tells_31 rfl rfl ?_
    refine E_getA h dX9_tells_32 cf9 lk_X9_99 (by decide) (fun _ _ _ => rfl) (fun e6 h => ?_)
    refine E_iconst (v := 1) dX9_tells_35 (by decide) ?_
    refine E_iload_n dX9_tells_36 rfl rfl ?_
    refine E_i2l dX9_tells_37 ?_
    refine E_last h dX9_tells_38 (fun h => ?_)
    refine E_oU h (fun u7 h => ?_)
    refine E_aload_n dX9_tells_39 rfl rfl ?_
    refine E_getA h dX9_tells_40 cf9 lk_X9_99 (by decide) (fun _ _ _ => rfl) (fun e8 h => ?_)
    refine E_iconst (v := 2) dX9_tells_43 (by decide) ?_
    refine E_iload_n dX9_tells_44 rfl rfl ?_
    refine E_i2l dX9_tells_45 ?_
    refine E_last h dX9_tells_46 (fun h => ?_)
    refine E_oU h (fun u9 h => ?_)
    refine E_aload_n dX9_tells_47 rfl rfl ?_
    refine E_getA h dX9_tells_48 cf9 lk_X9_99 (by decide) (fun _ _ _ => rfl) (fun e10 h => ?_)
    refine E_iconst (v := 3) dX9_tells_51 (by decide) ?_
    refine E_iload_n dX9_tells_52 rfl rfl ?_
    refine E_iconst (v := (-1)) dX9_tells_53 (by decide) ?_
    refine E_ic_ne (tgt := 63) h dX9_tells_54 (by decide) (fun h => ?_) (fun h => ?_)
    · refine E_aload_n dX9_tells_63 rfl rfl ?_
      refine E_getA h dX9_tells_64 cf9 lk_X9_13 (by decide) (fun _ _ _ => rfl) (fun e11 h => ?_)
      refine E_bipush (v := 7) dX9_tells_67 (by decide) ?_
      refine E_iload_n dX9_tells_69 rfl rfl ?_
      refine E_iadd dX9_tells_70 ?_
      refine E_iald h dX9_tells_71 (fun h => ?_)
      refine E_oI h (fun v12 h => ?_)
      refine E_i2l dX9_tells_72 ?_
      refine Eg.pick [0, 1, 2, 3, 4, 5, 6] rfl ?_
      exact pX9_tells_73 _ _ _ _ _ _ _ _ _ _ _ h
    · refine E_ldc2 dX9_tells_57 rfl cn_X9_196 ?_
      refine E_goto (tgt := 73) dX9_tells_60 (by decide) ?_
      refine Eg.pick [0, 1, 2, 3, 4, 5, 6] rfl ?_
      exact pX9_tells_73 _ _ _ _ _ _ _ _ _ _ _ h
  · refine E_lload dX9_tells_10 rfl ?_
    exact E_lret h dX9_tells_12 rfl
