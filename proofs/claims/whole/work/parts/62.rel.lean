/-! ===== Rel; LR is what is said of the laws and images ===== -/
def Rel (LR : Mm → Prop) (u : Mm) : Prop := hSh u ∧ Rbk (fun j => mI u (1 + j)) (mI u 47) ∧ Rmi (mI u 0) (mI u 45) (mI u 44) (mI u 46) ∧ Rta (mI u 42) (mI u 54) ∧ Rde (mI u 0) (mI u 41) (mI u 70) ∧ Rpa (mI u 30) (mI u 31) (mI u 32) (mI u 45) (mI u 50) (mI u 51) (mI u 47) ∧ LR u
/-- what LR may speak of -/
def LRf (LR : Mm → Prop) : Prop := ∀ u u' : Mm, LR u → mN u' = mN u → mK u' = mK u → mR u' = mR u → (∀ a, 71 ≤ a → mI u' a = mI u a) → mI u' 1 14 = mI u 1 14 → mI u' 47 2 = mI u 47 2 → (∀ i, 130 ≤ i → mI u' 47 i = mI u 47 i) → mI u' 48 = mI u 48 → mI u' 49 = mI u 49 → LR u'
theorem hR0_Rel {LR : Mm → Prop} : ∀ u, Rel LR u → (mK u 0).1 = 8 := fun u h => by rw [sh0 h.1]
theorem hR45_Rel {u : Mm} (h : hSh u) : (mK u 45).1 = 9 := by rw [sh45 h]
/-- the reference forgets what was thrown -/
def mT (u : Mm) : Mm := wI u 45 (upd (mI u 45) 0 0)
theorem Rmi_upd {c0 m45 c44 m46 : Nat → Int32} {k : Nat} {x : Int32} (h : Rmi c0 m45 c44 m46) (hk : k ≠ 11 ∧ k ≠ 18 ∧ k ≠ 49 ∧ k ≠ 1 ∧ k ≠ 13 ∧ k ≠ 20 ∧ k ≠ 53) : Rmi c0 (upd m45 k x) c44 m46 := by
  obtain ⟨k1, k2, k3, k4, k5, k6, k7⟩ := hk
  unfold Rmi at h ⊢
  rw [pk_un (Ne.symm k1), pk_un (Ne.symm k2), pk_un (Ne.symm k3), pk_un (Ne.symm k4), pk_un (Ne.symm k5), pk_un (Ne.symm k6), pk_un (Ne.symm k7)]
  exact h
theorem Rpa_upd {c30 c31 c32 m45 m50 m51 row : Nat → Int32} {k : Nat} {x : Int32} (h : Rpa c30 c31 c32 m45 m50 m51 row) (hk : k ≠ 8) : Rpa c30 c31 c32 (upd m45 k x) m50 m51 row := by
  unfold Rpa at h ⊢
  rw [pk_un (Ne.symm hk)]
  exact h
theorem Rel_mT {LR : Mm → Prop} (hF : LRf LR) {u : Mm} (h : Rel LR u) : Rel LR (mT u) :=
  ⟨h.1, h.2.1, Rmi_upd h.2.2.1 (by decide), h.2.2.2.1, h.2.2.2.2.1, Rpa_upd h.2.2.2.2.2.1 (by decide), hF u _ h.2.2.2.2.2.2 rfl rfl rfl (fun a ha => by show mI (wI u 45 _) a = _; rw [mI_wI, if_neg (by omega)]) rfl rfl (fun _ _ => rfl) rfl rfl⟩
theorem s10 {LR : Mm → Prop} (hF : LRf LR) : hwS_10 (Rel LR) := by
  intro u h
  refine ⟨mI u 0 14, u, mT u, ?_, hR45_Rel h.1, ?_, Rel_mT hF h⟩
  · show fX8_strokes u 0 = _
    unfold fX8_strokes; rw [oK_of (sh0 h.1), oI_of]
  · show fX9_strokes u 45 = _
    unfold fX9_strokes; rw [oK_of (sh45 h.1), oU_of, oK_of (sh45 (hSh_wI h.1)), oI_of, h.2.2.1.1]; rfl
theorem s13 {LR : Mm → Prop} (hF : LRf LR) : hwS_13 (Rel LR) := by
  intro u h
  refine ⟨mI u 0 13, u, mT u, ?_, hR45_Rel h.1, ?_, Rel_mT hF h⟩
  · show fX8_fault u 0 = _
    unfold fX8_fault; rw [oK_of (sh0 h.1), oI_of]
  · show fX9_fault u 45 = _
    unfold fX9_fault; rw [oK_of (sh45 h.1), oU_of, oK_of (sh45 (hSh_wI h.1)), oI_of, h.2.2.1.2.1]; rfl
theorem s14 {LR : Mm → Prop} (hF : LRf LR) : hwS_14 (Rel LR) := by
  intro u h
  refine ⟨mI u 0 15, u, mT u, ?_, hR45_Rel h.1, ?_, Rel_mT hF h⟩
  · show fX8_stopped u 0 = _
    unfold fX8_stopped; rw [oK_of (sh0 h.1), oI_of]
  · show fX9_stopped u 45 = _
    unfold fX9_stopped; rw [oK_of (sh45 h.1), oU_of, oK_of (sh45 (hSh_wI h.1)), oI_of, h.2.2.1.2.2.1]; rfl
theorem s41 {LR : Mm → Prop} (hF : LRf LR) : hwS_41 (Rel LR) := by
  intro u h
  refine ⟨mI u 0 18, u, mT u, ?_, hR45_Rel h.1, ?_, Rel_mT hF h⟩
  · show fX8_status u 0 = _
    unfold fX8_status; rw [oK_of (sh0 h.1), oI_of]
  · show fX9_status u 45 = _
    unfold fX9_status; rw [oK_of (sh45 h.1), oU_of, oK_of (sh45 (hSh_wI h.1)), oI_of, h.2.2.1.2.2.2.1]; rfl
