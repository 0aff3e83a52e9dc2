/-! ===== the beginning ===== -/
def gU (x : Option (Unit × Mm)) : Mm := match x with
  | some (_, u) => u
  | none => hwU0
set_option maxRecDepth 100000 in
theorem gU_some {x : Option (Unit × Mm)} (h : x.isSome = true) : x = some ((), gU x) := by
  cases x with
  | none => cases h
  | some v => rfl
def i8_ : Mm := gU (fX8_init (wN hwU0 8 19) 0)
set_option maxRecDepth 100000 in
set_option maxRecDepth 100000 in
theorem i8_ok : (fX8_init (wN hwU0 8 19) 0).isSome = true := by decide +kernel
set_option maxRecDepth 100000 in
set_option maxRecDepth 100000 in
theorem i8_n : mN i8_ = 45 := by decide +kernel
def i9_ : Mm := gU (fX9_init (wN i8_ 9 54) 45)
set_option maxRecDepth 100000 in
set_option maxRecDepth 100000 in
theorem i9_ok : (fX9_init (wN i8_ 9 54) 45).isSome = true := by decide +kernel
set_option maxRecDepth 100000 in
set_option maxRecDepth 100000 in
theorem i9_sh : hSh i9_ := by unfold hSh; decide +kernel
set_option maxRecDepth 100000 in
set_option maxRecDepth 100000 in
theorem i9_bk : (∀ i, i < 127 → mI i9_ 47 i = mI i9_ (1 + (loc i).1) (loc i).2) ∧ (∀ i, i < 127 → (rlh i).1 ≤ (mI i9_ 47 i).toInt ∧ (mI i9_ 47 i).toInt ≤ (rlh i).2) ∧ (mI i9_ 47 3).toInt < (mI i9_ 47 2).toInt := by decide +kernel
set_option maxRecDepth 100000 in
set_option maxRecDepth 100000 in
theorem i9_mi : mI i9_ 0 14 = mI i9_ 45 11 ∧ mI i9_ 0 13 = mI i9_ 45 18 ∧ mI i9_ 0 15 = mI i9_ 45 49 ∧ mI i9_ 0 18 = mI i9_ 45 1 ∧ mI i9_ 0 12 = mI i9_ 45 13 ∧ (∀ k, k < 6 → mI i9_ 44 k = mI i9_ 46 (k + 1)) ∧ (0 ≤ (mI i9_ 0 12).toInt ∧ (mI i9_ 0 12).toInt ≤ 400) ∧ mI i9_ 45 20 = 0 ∧ mI i9_ 0 10 = mI i9_ 45 53 ∧ mI i9_ 0 10 = 0 := by decide +kernel
set_option maxRecDepth 100000 in
set_option maxRecDepth 100000 in
theorem i9_ta : ∀ i, i < 400 → mI i9_ 42 i = mI i9_ 54 i ∧ 0 ≤ (mI i9_ 42 i).toInt ∧ (mI i9_ 42 i).toInt ≤ 255 := by decide +kernel
set_option maxRecDepth 100000 in
set_option maxRecDepth 100000 in
theorem i9_pa : mI i9_ 30 2 = 0 ∧ mI i9_ 30 3 = 0 ∧ mI i9_ 45 8 = 0 ∧ mI i9_ 1 14 = 0 ∧ (∀ i, i < 6 → mR i9_ 12 i = none) ∧ mI i9_ 49 0 = 0 ∧ mI i9_ 49 1 = 0 ∧ mR i9_ 29 0 = none ∧ mR i9_ 29 1 = none := by decide +kernel
set_option maxRecDepth 100000 in
theorem init_Rel : hwInit (Rel LR) := by
  obtain ⟨p1, p2, p3, p4, p5, p6, p7, p8, p9⟩ := i9_pa
  refine ⟨i8_, i9_, gU_some i8_ok, i8_n, gU_some i9_ok, i9_sh, ⟨i9_bk.1, i9_bk.2.1, i9_bk.2.2⟩, ?_, fun i hi => ⟨(i9_ta i hi).1, (i9_ta i hi).2⟩, fun w => ?_, ⟨0, 0, by decide, by decide, p1, p2, p3, fun j hj => absurd hj (Nat.not_lt_zero j)⟩, ?_⟩
  · obtain ⟨r1, r2, r3, r4, r5, r6, r7, r8, r9, r10⟩ := i9_mi
    exact ⟨r1, r2, r3, r4, r5, r6, r7, r8, r9, Or.inl r10⟩
  · exact absurd (i9_mi.2.2.2.2.2.2.2.2.2.symm.trans w) (by decide)
  · refine ⟨⟨0, p4, by decide, fun i hi => Or.inl (p5 i hi), fun i hi => absurd hi (Nat.not_lt_zero i)⟩, Or.inl ⟨p6, p8⟩, Or.inl ⟨p7, p9⟩, fun b0 b1 w _ => ?_⟩
    rw [p8] at w; cases w
