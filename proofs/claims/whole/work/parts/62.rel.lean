/-! ===== Rel; LR is what is said of the laws and images ===== -/
def Rel (LR : Mm → Prop) (u : Mm) : Prop := hSh u ∧ Rbk (fun j => mI u (1 + j)) (mI u 47) ∧ Rmi (mI u 0) (mI u 45) (mI u 44) (mI u 46) ∧ Rta (mI u 42) (mI u 54) ∧ Rde (mI u 0) (mI u 41) (mI u 70) ∧ Rpa (mI u 30) (mI u 31) (mI u 32) (mI u 45) (mI u 50) (mI u 51) (mI u 47) ∧ LR u
/-- what LR may speak of -/
def LRf (LR : Mm → Prop) : Prop := ∀ u u' : Mm, LR u → mQ u' = mQ u → mK u' = mK u → mR u' = mR u → (∀ a, 71 ≤ a → mI u' a = mI u a) → mI u' 1 14 = mI u 1 14 → mI u' 47 2 = mI u 47 2 → (∀ i, 130 ≤ i → mI u' 47 i = mI u 47 i) → mI u' 48 = mI u 48 → mI u' 49 = mI u 49 → LR u'
theorem hR0_Rel {LR : Mm → Prop} : ∀ u, Rel LR u → (mK u 0).1 = 8 := fun u h => by rw [sh0 h.1]
theorem hR45_Rel {u : Mm} (h : hSh u) : (mK u 45).1 = 9 := by rw [sh45 h]
/-- the reference forgets what was thrown -/
def mT (u : Mm) : Mm := wI u 45 (upd (mI u 45) 0 0)
theorem Rmi_upd {c0 m45 c44 m46 : Nat → Int32} {k : Nat} {x : Int32} (h : Rmi c0 m45 c44 m46) (hk : k ≠ 11 ∧ k ≠ 18 ∧ k ≠ 49 ∧ k ≠ 1 ∧ k ≠ 13 ∧ k ≠ 20 ∧ k ≠ 53) : Rmi c0 (upd m45 k x) c44 m46 := by
  obtain ⟨k1, k2, k3, k4, k5, k6, k7⟩ := hk
  unfold Rmi at h ⊢
  rw [pk_un (Ne.symm k1), pk_un (Ne.symm k2), pk_un (Ne.symm k3), pk_un (Ne.symm k4), pk_un (Ne.symm k5), pk_un (Ne.symm k6), pk_un (Ne.symm k7)]
  exact h
theorem Rpa_upd {c30 c31 c32 m45 m50 m51 row : Nat → Int32} {k : Nat} {x : Int32} (h : Rpa c30 c31 c32 m45 m50 m51 row) (hk : k ≠ 8) : Rpa c30 c31 c32 (upd m45 k x) m50 m51 row := by
  unfold Rpa at h ⊢
  rw [pk_un (Ne.symm hk)]
  exact h
/-- what is scratch: places, the reference's own fields, the last two rows of what can be undone -/
def scr (a : Nat) : Bool := (13 ≤ a && a ≤ 28) || (33 ≤ a && a ≤ 39) || a == 43 || (52 ≤ a && a ≤ 53) || (55 ≤ a && a ≤ 69)
def Scr (u u' : Mm) : Prop := mQ u' = mQ u ∧ mK u' = mK u ∧ mR u' = mR u ∧ (∀ a, scr a = false → a ≠ 45 → a ≠ 50 → mI u' a = mI u a) ∧ (∀ k, k ∈ [1, 8, 11, 13, 18, 20, 49, 53] → mI u' 45 k = mI u 45 k) ∧ (∀ i, i < 496 → mI u' 50 i = mI u 50 i)
theorem Scr_rfl {u : Mm} : Scr u u := ⟨Eq.refl _, Eq.refl _, Eq.refl _, fun _ _ _ _ => Eq.refl _, fun _ _ => Eq.refl _, fun _ _ => Eq.refl _⟩
theorem Scr_trans {u v w : Mm} (h : Scr u v) (k : Scr v w) : Scr u w := ⟨k.1.trans h.1, k.2.1.trans h.2.1, k.2.2.1.trans h.2.2.1, fun a h1 h2 h3 => (k.2.2.2.1 a h1 h2 h3).trans (h.2.2.2.1 a h1 h2 h3), fun a h1 => (k.2.2.2.2.1 a h1).trans (h.2.2.2.2.1 a h1), fun a h1 => (k.2.2.2.2.2 a h1).trans (h.2.2.2.2.2 a h1)⟩
theorem Scr_wI {u : Mm} {a : Nat} {f : Nat → Int32} (h : scr a = true) : Scr u (wI u a f) := by
  refine ⟨Eq.refl _, Eq.refl _, Eq.refl _, fun b h1 _ _ => ?_, fun k _ => ?_, fun i _ => ?_⟩
  · rw [mI_wI, if_neg (fun e => by rw [e, h] at h1; cases h1)]
  · rw [mI_wI, if_neg (fun e => by rw [← e] at h; exact absurd h (by decide))]
  · rw [mI_wI, if_neg (fun e => by rw [← e] at h; exact absurd h (by decide))]
theorem Scr_w45 {u : Mm} {k : Nat} {x : Int32} (h : k ∉ [1, 8, 11, 13, 18, 20, 49, 53]) : Scr u (wI u 45 (upd (mI u 45) k x)) := by
  refine ⟨Eq.refl _, Eq.refl _, Eq.refl _, fun b _ h2 _ => ?_, fun j hj => ?_, fun i _ => ?_⟩
  · rw [mI_wI, if_neg h2]
  · have e : j ≠ k := fun e => h (e ▸ hj)
    rw [mI_wI, if_pos (Eq.refl _), pk_un e]
  · rw [mI_wI, if_neg (by decide)]
theorem Scr_hSh {u u' : Mm} (k : Scr u u') (h : hSh u) : hSh u' := by
  unfold hSh at h ⊢
  rw [k.1, k.2.1, k.2.2.1]
  exact h
theorem Scr_I {u u' : Mm} (k : Scr u u') (a : Nat) (h1 : scr a = false) (h2 : a ≠ 45 ∧ a ≠ 50) : mI u' a = mI u a := k.2.2.2.1 a h1 h2.1 h2.2
theorem Rmi_eq {c0 m45 m45' c44 m46 : Nat → Int32} (h : Rmi c0 m45 c44 m46) (k : ∀ k, k ∈ [1, 8, 11, 13, 18, 20, 49, 53] → m45' k = m45 k) : Rmi c0 m45' c44 m46 := by
  unfold Rmi at h ⊢
  rw [k 11 (by decide), k 18 (by decide), k 49 (by decide), k 1 (by decide), k 13 (by decide), k 20 (by decide), k 53 (by decide)]
  exact h
theorem Rpa_eq {c30 c31 c32 m45 m45' m50 m50' m51 row : Nat → Int32} (h : Rpa c30 c31 c32 m45 m50 m51 row) (k : m45' 8 = m45 8) (k2 : ∀ i, i < 496 → m50' i = m50 i) : Rpa c30 c31 c32 m45' m50' m51 row := by
  obtain ⟨n, s, h1, h2, h3, h4, h5, h6⟩ := h
  refine ⟨n, s, h1, h2, h3, h4, k.trans h5, fun j hj => ?_⟩
  obtain ⟨⟨g1, g2⟩, g3, g4, g5, g6, g7⟩ := h6 j hj
  refine ⟨⟨fun i hi => ?_, ?_⟩, ?_, ?_, g5, g6, fun i hi => ?_⟩
  · exact (g1 i hi).trans (k2 (31 * j + (3 + i)) (by omega)).symm
  · exact g2.trans (k2 (31 * j + 0) (by omega)).symm
  · exact (k2 (31 * j + 1) (by omega)).trans g3
  · exact (k2 (31 * j + 2) (by omega)).trans g4
  · rw [k2 (31 * j + i) (by omega)]; exact g7 i hi
theorem Rel_Scr {LR : Mm → Prop} (hF : LRf LR) {u u' : Mm} (h : Rel LR u) (k : Scr u u') : Rel LR u' := by
  obtain ⟨h1, h2, h3, h4, h5, h6, h7⟩ := h
  refine ⟨Scr_hSh k h1, Rbk_eq h2 (fun j hj => ?_) (fun i _ => by rw [Scr_I k 47 rfl (by decide)]), ?_, ?_, ?_, ?_, hF u u' h7 k.1 k.2.1 k.2.2.1 (fun a ha => ?_) (by rw [Scr_I k 1 rfl (by decide)]) (by rw [Scr_I k 47 rfl (by decide)]) (fun i _ => by rw [Scr_I k 47 rfl (by decide)]) (Scr_I k 48 rfl (by decide)) (Scr_I k 49 rfl (by decide))⟩
  · refine Scr_I k _ ?_ (by omega)
    have : ∀ j, j ≤ 10 → scr (1 + j) = false := by decide +kernel
    exact this j hj
  · rw [Scr_I k 0 rfl (by decide), Scr_I k 44 rfl (by decide), Scr_I k 46 rfl (by decide)]
    exact Rmi_eq h3 k.2.2.2.2.1
  · rw [Scr_I k 42 rfl (by decide), Scr_I k 54 rfl (by decide)]; exact h4
  · rw [Scr_I k 0 rfl (by decide), Scr_I k 41 rfl (by decide), Scr_I k 70 rfl (by decide)]; exact h5
  · rw [Scr_I k 30 rfl (by decide), Scr_I k 31 rfl (by decide), Scr_I k 32 rfl (by decide), Scr_I k 51 rfl (by decide), Scr_I k 47 rfl (by decide)]
    exact Rpa_eq h6 (k.2.2.2.2.1 8 (by decide)) k.2.2.2.2.2
  · refine Scr_I k a ?_ (by omega)
    unfold scr
    simp; omega
theorem Rel_mT {LR : Mm → Prop} (hF : LRf LR) {u : Mm} (h : Rel LR u) : Rel LR (mT u) := Rel_Scr hF h (Scr_w45 (k := 0) (by decide))
theorem s10 {LR : Mm → Prop} (hF : LRf LR) : hwS_10 (Rel LR) := by
  intro u h
  refine ⟨mI u 0 14, u, mT u, ?_, hR45_Rel h.1, ?_, Rel_mT hF h⟩
  · show fX8_strokes u 0 = _
    unfold fX8_strokes; rw [oK_of (sh0 h.1), oI_of]
  · show fX9_strokes u 45 = _
    unfold fX9_strokes; rw [oK_of (sh45 h.1), oU_of, oK_of (sh45 (hSh_wI h.1)), oI_of, h.2.2.1.1]; rfl
theorem s13 {LR : Mm → Prop} (hF : LRf LR) : hwS_13 (Rel LR) := by
  intro u h
  refine ⟨mI u 0 13, u, mT u, ?_, hR45_Rel h.1, ?_, Rel_mT hF h⟩
  · show fX8_fault u 0 = _
    unfold fX8_fault; rw [oK_of (sh0 h.1), oI_of]
  · show fX9_fault u 45 = _
    unfold fX9_fault; rw [oK_of (sh45 h.1), oU_of, oK_of (sh45 (hSh_wI h.1)), oI_of, h.2.2.1.2.1]; rfl
theorem s14 {LR : Mm → Prop} (hF : LRf LR) : hwS_14 (Rel LR) := by
  intro u h
  refine ⟨mI u 0 15, u, mT u, ?_, hR45_Rel h.1, ?_, Rel_mT hF h⟩
  · show fX8_stopped u 0 = _
    unfold fX8_stopped; rw [oK_of (sh0 h.1), oI_of]
  · show fX9_stopped u 45 = _
    unfold fX9_stopped; rw [oK_of (sh45 h.1), oU_of, oK_of (sh45 (hSh_wI h.1)), oI_of, h.2.2.1.2.2.1]; rfl
theorem s41 {LR : Mm → Prop} (hF : LRf LR) : hwS_41 (Rel LR) := by
  intro u h
  refine ⟨mI u 0 18, u, mT u, ?_, hR45_Rel h.1, ?_, Rel_mT hF h⟩
  · show fX8_status u 0 = _
    unfold fX8_status; rw [oK_of (sh0 h.1), oI_of]
  · show fX9_status u 45 = _
    unfold fX9_status; rw [oK_of (sh45 h.1), oU_of, oK_of (sh45 (hSh_wI h.1)), oI_of, h.2.2.1.2.2.2.1]; rfl
