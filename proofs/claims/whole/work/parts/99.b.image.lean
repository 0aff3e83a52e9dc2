/-! ===== image ===== -/
def NOB (u : Mm) (t : Nat) : Prop := ∀ k b, k < 2 → mR u 29 k = some b → t + 5 < b ∨ b + 11 < t
def PreI (w : Mm) (k b : Nat) : Prop := hSh w ∧ Rbk (fun j => mI w (1 + j)) (mI w 47) ∧ Rmi (mI w 0) (mI w 45) (mI w 44) (mI w 46) ∧ Rta (mI w 42) (mI w 54) ∧ Rde (mI w 0) (mI w 41) (mI w 70) ∧ Rpa (mI w 30) (mI w 31) (mI w 32) (mI w 45) (mI w 50) (mI w 51) (mI w 47) ∧ (∃ n, mI w 1 14 = nI n ∧ BL w 12 n (mI w 47)) ∧ IMk w (1 - k) ∧ (∀ b', mR w 29 (1 - k) = some b' → b + 11 < b' ∨ b' + 11 < b) ∧ mR w 29 k = some b ∧ 71 ≤ b ∧ BkSh w b
set_option maxRecDepth 100000 in
theorem CLaw_lt {u : Mm} {t : Nat} {A : LawA} (h : CLaw u t A) : t + 5 < mN u := by
  obtain ⟨-, -, -, ⟨nk, ns, k1, k2, -⟩, -⟩ := h
  exact mK_lt k2 (by decide)
set_option maxRecDepth 100000 in
theorem BkSh_lt {u : Mm} {b : Nat} (h : BkSh u b) : b + 11 < mN u := mK_lt h.2.2.2.2.2.2.2.2.2.2.2.1 (by decide)
set_option maxRecDepth 100000 in
theorem img_end {w : Mm} {k b : Nat} (hk : k < 2) (h : PreI w k b) : ∃ u1 u2, bX8_image_37 w 0 (nI k) = some (0, u1) ∧ hSh u1 ∧ fX9_image u1 45 (nI k) = some (0, u2) ∧ Rel LR u2 := by
  obtain ⟨hS, r2, r3, r4, r5, r6, ⟨n, n1, n2⟩, io, dj, rb, b71, hb⟩ := h
  have cx : 0 ≤ nI k ∧ nI k ≤ 1 := ⟨nI_pos' (by omega), nI_le (b := 1) (by omega) (by decide)⟩
  have cp := c_bcopy (u := w) (a := 1) (b := b) (BkSh1 hS) hb (by omega) n2.2.1
  have hU : ∃ U, U = wR (SB w b (bkD (fun j => mI w (1 + j)) (fun j => mI w (b + j)))) (b + 11) (lwC (mR w (b + 11)) (mR w (1 + 11)) 6) := ⟨_, rfl⟩
  obtain ⟨U, eU⟩ := hU
  rw [← eU] at cp
  have UN : mN U = mN w := by rw [eU]; rfl
  have UK : mK U = mK w := by rw [eU]; rfl
  have UR : ∀ a, a ≠ b + 11 → mR U a = mR w a := by
    intro a ha
    rw [eU]
    show (if a = b + 11 then _ else mR w a) = _
    rw [if_neg ha]
  have URb : ∀ i, i < 6 → mR U (b + 11) i = mR w 12 i := by
    intro i hi
    rw [eU]
    show (if b + 11 = b + 11 then lwC (mR w (b + 11)) (mR w (1 + 11)) 6 else _) i = _
    rw [if_pos rfl]
    unfold lwC
    rw [if_pos hi]
  have UI : ∀ a, (a < b ∨ b + 11 < a) → mI U a = mI w a := by
    intro a ha
    rw [eU]
    exact SB_out ha
  have UB : ∀ j, j ≤ 11 → mI U (b + j) = bkD (fun j => mI w (1 + j)) (fun j => mI w (b + j)) j := by
    intro j hj
    rw [eU]
    exact SB_in hj
  have hSU : hSh U := hSh_of hS (by omega) (fun a _ => by rw [UK]) (fun a h71 _ _ => UR a (by omega)) (fun a _ => by rw [eU]; rfl)
  clear eU
  have h0 : ∀ g, hSh (wI U 0 g) := fun _ => hSU
  have hvT : hSh (mT (wI U 0 (upd (mI U 0) 18 0))) := hSU
  have mi := m_image1 hvT hk (N := 994469) (im := mI (mT (wI U 0 (upd (mI U 0) 18 0))) 48) 5530 0 (by decide)
  rw [imF0, wI_id] at mi
  have e48 : mI (mT (wI U 0 (upd (mI U 0) 18 0))) 48 = mI w 48 := UI 48 (by omega)
  have e47 : mI (mT (wI U 0 (upd (mI U 0) 18 0))) 47 = mI w 47 := UI 47 (by omega)
  have e49 : mI (mT (wI U 0 (upd (mI U 0) 18 0))) 49 = mI w 49 := UI 49 (by omega)
  rw [e48, e47, e49] at mi
  refine ⟨wI U 0 (upd (mI U 0) 18 0), wI (wI (wI (mT (wI U 0 (upd (mI U 0) 18 0))) 48 (imF (mI w 48) (mI w 47) k 5530)) 49 (upd (mI w 49) k 1)) 45 (upd (mI (mT (wI U 0 (upd (mI U 0) 18 0))) 45) 1 0), ?_, h0 _, ?_, ?_⟩
  · unfold bX8_image_37
    rw [oK_of (sh0 hS), rf0_4 hS, oNn_of, oA_k (sh29 hS) hk (by decide), clm (by omega), rb, oNn_of, oK_of (sh0 hS), rf0_0 hS, oNn_of, oR_of hb.1, cp, oB_of, oR_of (sh0 hSU), c_accept hSU, oB_of]
  · unfold fX9_image
    rw [oK_of (sh45 (h0 _)), oT, m_in1, oB_of, if_pos cx, if_neg (by decide)]
    exact mi
  · have q3 : ∀ a, (a < b ∨ b + 11 < a) → a ≠ 0 → a ≠ 45 → a ≠ 48 → a ≠ 49 → mI (wI (wI (wI (mT (wI U 0 (upd (mI U 0) 18 0))) 48 (imF (mI w 48) (mI w 47) k 5530)) 49 (upd (mI w 49) k 1)) 45 (upd (mI (mT (wI U 0 (upd (mI U 0) 18 0))) 45) 1 0)) a = mI w a := by
      intro a ha a0 a45 a48 a49
      unfold mT
      simp only [mI_wI]
      rw [if_neg a45, if_neg a49, if_neg a48, if_neg a45, if_neg a0]
      exact UI a ha
    have qb : ∀ j, j ≤ 11 → mI (wI (wI (wI (mT (wI U 0 (upd (mI U 0) 18 0))) 48 (imF (mI w 48) (mI w 47) k 5530)) 49 (upd (mI w 49) k 1)) 45 (upd (mI (mT (wI U 0 (upd (mI U 0) 18 0))) 45) 1 0)) (b + j) = bkD (fun j => mI w (1 + j)) (fun j => mI w (b + j)) j := by
      intro j hj
      unfold mT
      simp only [mI_wI]
      repeat rw [if_neg (by omega)]
      exact UB j hj
    have cl : ∀ t A, 71 ≤ t → CLaw w t A → (∀ k b, k < 2 → mR w 29 k = some b → t + 5 < b ∨ b + 11 < t) → CLaw (wI (wI (wI (mT (wI U 0 (upd (mI U 0) 18 0))) 48 (imF (mI w 48) (mI w 47) k 5530)) 49 (upd (mI w 49) k 1)) 45 (upd (mI (mT (wI U 0 (upd (mI U 0) 18 0))) 45) 1 0)) t A ∧ ∀ k' b', k' < 2 → mR (wI (wI (wI (mT (wI U 0 (upd (mI U 0) 18 0))) 48 (imF (mI w 48) (mI w 47) k 5530)) 49 (upd (mI w 49) k 1)) 45 (upd (mI (mT (wI U 0 (upd (mI U 0) 18 0))) 45) 1 0)) 29 k' = some b' → t + 5 < b' ∨ b' + 11 < t := by
      intro t A ht hc hn
      have nb := hn k b hk rb
      refine ⟨CLaw_at hc (fun a a1 a2 => ⟨by show mK U a = _; rw [UK], UR a (by omega), q3 a (by omega) (by omega) (by omega) (by omega) (by omega)⟩), fun k' b' h1 h2 => hn k' b' h1 ?_⟩
      have h2' : mR U 29 k' = some b' := h2
      rw [UR 29 (by omega)] at h2'
      exact h2'
    refine ⟨hSU, ?_, ?_, ?_, ?_, ?_, ⟨n, ?_, ?_⟩, ?_⟩
    · refine Rbk_eq r2 (fun j hj => q3 (1 + j) (by omega) (by omega) (by omega) (by omega) (by omega)) (fun i hi => ?_)
      rw [q3 47 (by omega) (by decide) (by decide) (by decide) (by decide)]
    · show Rmi (upd (mI U 0) 18 0) (upd (upd (mI U 45) 0 0) 1 0) (mI U 44) (mI U 46)
      rw [UI 0 (by omega), UI 45 (by omega), UI 44 (by omega), UI 46 (by omega)]
      exact Rmi_ok (Rmi_upd r3 (by decide))
    · rw [q3 42 (by omega) (by decide) (by decide) (by decide) (by decide), q3 54 (by omega) (by decide) (by decide) (by decide) (by decide)]; exact r4
    · show Rde (upd (mI U 0) 18 0) (mI U 41) (mI U 70)
      rw [UI 0 (by omega), UI 41 (by omega), UI 70 (by omega)]; exact r5
    · show Rpa (mI U 30) (mI U 31) (mI U 32) (upd (upd (mI U 45) 0 0) 1 0) (mI U 50) (mI U 51) (mI U 47)
      rw [UI 30 (by omega), UI 31 (by omega), UI 32 (by omega), UI 45 (by omega), UI 50 (by omega), UI 51 (by omega), UI 47 (by omega)]
      exact Rpa_upd (Rpa_upd r6 (by decide)) (by decide)
    · rw [q3 1 (by omega) (by decide) (by decide) (by decide) (by decide)]; exact n1
    · rw [q3 47 (by omega) (by decide) (by decide) (by decide) (by decide)]
      exact BL_mv n2 (fun i hi => by show mR U 12 i = _; rw [UR 12 (by omega)]) (fun t _ z => by show (mK U t).1 = 6; rw [UK]; exact z) (fun t _ z => by show (mK U t).1 = 6; rw [UK]; exact z) cl (fun _ _ => rfl)
    · -- this image, the other one
      have r29 : ∀ k', mR (wI (wI (wI (mT (wI U 0 (upd (mI U 0) 18 0))) 48 (imF (mI w 48) (mI w 47) k 5530)) 49 (upd (mI w 49) k 1)) 45 (upd (mI (mT (wI U 0 (upd (mI U 0) 18 0))) 45) 1 0)) 29 k' = mR w 29 k' := fun k' => by show mR U 29 k' = _; rw [UR 29 (by omega)]
      have me : IMk (wI (wI (wI (mT (wI U 0 (upd (mI U 0) 18 0))) 48 (imF (mI w 48) (mI w 47) k 5530)) 49 (upd (mI w 49) k 1)) 45 (upd (mI (mT (wI U 0 (upd (mI U 0) 18 0))) 45) 1 0)) k := by
        have eim : ∀ i, i < 5530 → imF (mI w 48) (mI w 47) k 5530 (5530 * k + i) = mI w 47 i := fun i hi => by unfold imF; rw [if_pos (by omega)]; congr 1; omega
        refine Or.inr ⟨?_, b, n, by rw [r29]; exact rb, b71, ?_, ?_, ?_, ?_⟩
        · show upd (mI w 49) k 1 k = 1
          rw [pk_us]
        · have hb' := hb
          unfold BkSh at hb' ⊢
          refine ⟨?_, ?_, ?_, ?_, ?_, ?_, ?_, ?_, ?_, ?_, ?_, ?_, ?_⟩
          · show mK U b = _; rw [UK]; exact hb'.1
          · show mK U (b + 1) = _; rw [UK]; exact hb'.2.1
          · show mK U (b + 2) = _; rw [UK]; exact hb'.2.2.1
          · show mK U (b + 3) = _; rw [UK]; exact hb'.2.2.2.1
          · show mK U (b + 4) = _; rw [UK]; exact hb'.2.2.2.2.1
          · show mK U (b + 5) = _; rw [UK]; exact hb'.2.2.2.2.2.1
          · show mK U (b + 6) = _; rw [UK]; exact hb'.2.2.2.2.2.2.1
          · show mK U (b + 7) = _; rw [UK]; exact hb'.2.2.2.2.2.2.2.1
          · show mK U (b + 8) = _; rw [UK]; exact hb'.2.2.2.2.2.2.2.2.1
          · show mK U (b + 9) = _; rw [UK]; exact hb'.2.2.2.2.2.2.2.2.2.1
          · show mK U (b + 10) = _; rw [UK]; exact hb'.2.2.2.2.2.2.2.2.2.2.1
          · show mK U (b + 11) = _; rw [UK]; exact hb'.2.2.2.2.2.2.2.2.2.2.2.1
          · have e1 : mR U b = mR w b := UR b (by omega)
            have e2 : mR U (b + 1) = mR w (b + 1) := UR (b + 1) (by omega)
            show mR U b 0 = _ ∧ mR U (b + 1) 0 = _ ∧ mR U b 1 = _ ∧ mR U b 2 = _ ∧ mR U b 3 = _ ∧ mR U b 4 = _ ∧ mR U b 5 = _ ∧ mR U b 6 = _ ∧ mR U b 8 = _ ∧ mR U b 9 = _ ∧ mR U b 13 = _
            rw [e1, e2]
            exact hb'.2.2.2.2.2.2.2.2.2.2.2.2
        · refine Rbk_eq (Rbk_bkD (D := fun j => mI w (b + j)) r2) (fun j hj => qb j (by omega)) (fun i hi => ?_)
          exact eim i (by omega)
        · have := congrFun (qb 0 (by decide)) 14
          exact this.trans n1
        · exact BL_mv n2 (fun i hi => URb i hi) (fun t _ z => by show (mK U t).1 = 6; rw [UK]; exact z) (fun t _ z => by show (mK U t).1 = 6; rw [UK]; exact z) cl (fun i hi => eim i hi)
      have ot : IMk (wI (wI (wI (mT (wI U 0 (upd (mI U 0) 18 0))) 48 (imF (mI w 48) (mI w 47) k 5530)) 49 (upd (mI w 49) k 1)) 45 (upd (mI (mT (wI U 0 (upd (mI U 0) 18 0))) 45) 1 0)) (1 - k) := by
        have eim : ∀ i, i < 5530 → imF (mI w 48) (mI w 47) k 5530 (5530 * (1 - k) + i) = mI w 48 (5530 * (1 - k) + i) := fun i hi => by unfold imF; rw [if_neg (by omega)]
        have e49' : upd (mI w 49) k 1 (1 - k) = mI w 49 (1 - k) := pk_un (by omega)
        rcases io with ⟨z1, z2⟩ | ⟨z1, b', n', z2, z3, z4, z5, z6, z7⟩
        · exact Or.inl ⟨e49'.trans z1, by rw [r29]; exact z2⟩
        · have db := dj b' z2
          refine Or.inr ⟨e49'.trans z1, b', n', by rw [r29]; exact z2, z3, ?_, ?_, ?_, ?_⟩
          · unfold BkSh at z4 ⊢
            have e1 : mR U b' = mR w b' := UR b' (by omega)
            have e2 : mR U (b' + 1) = mR w (b' + 1) := UR (b' + 1) (by omega)
            show mK U b' = _ ∧ mK U (b' + 1) = _ ∧ mK U (b' + 2) = _ ∧ mK U (b' + 3) = _ ∧ mK U (b' + 4) = _ ∧ mK U (b' + 5) = _ ∧ mK U (b' + 6) = _ ∧ mK U (b' + 7) = _ ∧ mK U (b' + 8) = _ ∧ mK U (b' + 9) = _ ∧ mK U (b' + 10) = _ ∧ mK U (b' + 11) = _ ∧ mR U b' 0 = _ ∧ mR U (b' + 1) 0 = _ ∧ mR U b' 1 = _ ∧ mR U b' 2 = _ ∧ mR U b' 3 = _ ∧ mR U b' 4 = _ ∧ mR U b' 5 = _ ∧ mR U b' 6 = _ ∧ mR U b' 8 = _ ∧ mR U b' 9 = _ ∧ mR U b' 13 = _
            rw [UK, e1, e2]
            exact z4
          · exact Rbk_eq z5 (fun j hj => q3 (b' + j) (by omega) (by omega) (by omega) (by omega) (by omega)) (fun i hi => eim i (by omega))
          · rw [q3 b' (by omega) (by omega) (by omega) (by omega) (by omega)]; exact z6
          · exact BL_mv z7 (fun i hi => by show mR U (b' + 11) i = _; rw [UR (b' + 11) (by omega)]) (fun t _ z => by show (mK U t).1 = 6; rw [UK]; exact z) (fun t _ z => by show (mK U t).1 = 6; rw [UK]; exact z) cl (fun i hi => eim i hi)
      rcases (by omega : k = 0 ∨ k = 1) with z | z
      · subst z
        refine ⟨me, ot, fun b0 b1 e0 e1 => ?_⟩
        rw [r29] at e0 e1
        have : b = b0 := Option.some.inj (rb.symm.trans e0)
        subst this
        exact dj b1 e1
      · subst z
        refine ⟨ot, me, fun b0 b1 e0 e1 => ?_⟩
        rw [r29] at e0 e1
        have : b = b1 := Option.some.inj (rb.symm.trans e1)
        subst this
        exact (dj b0 e0).symm
set_option maxRecDepth 100000 in
theorem s38 : hwS_38 (Rel LR) := by
  intro x u h
  have hS := h.1
  by_cases cx : 0 ≤ x ∧ x ≤ 1
  · obtain ⟨k, hk, rfl⟩ := sdI cx
    obtain ⟨h1, r2, r3, r4, r5, r6, ⟨⟨n, n1, n2⟩, i0, i1, dj⟩⟩ := id h
    have hik : IMk u k := by
      rcases (by omega : k = 0 ∨ k = 1) with z | z <;> subst z
      · exact i0
      · exact i1
    have hio : IMk u (1 - k) := by
      rcases (by omega : k = 0 ∨ k = 1) with z | z <;> subst z
      · exact i1
      · exact i0
    have N71 : 71 ≤ mN u := h1.1
    rcases hik with ⟨k1, k2⟩ | ⟨k1, b, m, k2, k3, k4, k5, k6, k7⟩
    · -- a new book
      obtain ⟨Kd, F, Q, e1, ⟨d0, d1, d2, d3, d4, d5, d6, d7, d8, d9, d10, d11⟩, f0, f1, f2, f3, f4, f5, f6, f7, f8, f9, f10⟩ := c_newbook (u := u)
      have VK : ∀ a, a < mN u → mK (wR (NM u 12 Kd F Q) 29 (va_up (mR (NM u 12 Kd F Q) 29) k (some (mN u)))) a = mK u a := fun a ha => NM_ko (F := F) (Q := Q) ha
      have VI : ∀ a, a < mN u → mI (wR (NM u 12 Kd F Q) 29 (va_up (mR (NM u 12 Kd F Q) 29) k (some (mN u)))) a = mI u a := fun a ha => NM_io (Kd := Kd) (Q := Q) ha
      have VR : ∀ a, a < mN u → a ≠ 29 → mR (wR (NM u 12 Kd F Q) 29 (va_up (mR (NM u 12 Kd F Q) 29) k (some (mN u)))) a = mR u a := by
        intro a ha hn
        show (if a = 29 then _ else mR (NM u 12 Kd F Q) a) = _
        rw [if_neg hn]; exact NM_ro ha
      have V29 : ∀ k', mR (wR (NM u 12 Kd F Q) 29 (va_up (mR (NM u 12 Kd F Q) 29) k (some (mN u)))) 29 k' = if k' = k then some (mN u) else mR u 29 k' := by
        intro k'
        show va_up (mR (NM u 12 Kd F Q) 29) k (some (mN u)) k' = _
        unfold va_up
        rw [NM_ro (by omega)]
      have hNM : hSh (NM u 12 Kd F Q) := hSh_of hS (by rw [NM_n]; omega) (fun a ha => NM_ko (by omega)) (fun a ha _ _ => NM_ro (by omega)) (fun a ha => NM_lo (j := 12) (Kd := Kd) (F := F) (Q := Q) (by omega))
      have hW : hSh (wR (NM u 12 Kd F Q) 29 (va_up (mR (NM u 12 Kd F Q) 29) k (some (mN u)))) := hSh_of hS (by show mN u ≤ mN u + 12; omega) (fun a ha => VK a (by omega)) (fun a ha _ hn => VR a (by omega) hn) (fun a ha => NM_lo (j := 12) (Kd := Kd) (F := F) (Q := Q) (by omega))
      have cl : ∀ t A, 71 ≤ t → CLaw u t A → (∀ k b, k < 2 → mR u 29 k = some b → t + 5 < b ∨ b + 11 < t) → CLaw (wR (NM u 12 Kd F Q) 29 (va_up (mR (NM u 12 Kd F Q) 29) k (some (mN u)))) t A ∧ ∀ k' b', k' < 2 → mR (wR (NM u 12 Kd F Q) 29 (va_up (mR (NM u 12 Kd F Q) 29) k (some (mN u)))) 29 k' = some b' → t + 5 < b' ∨ b' + 11 < t := by
        intro t A ht hc hn
        have lt := CLaw_lt hc
        refine ⟨CLaw_at hc (fun a a1 a2 => ⟨VK a (by omega), VR a (by omega) (by omega), VI a (by omega)⟩), fun k' b' q1 q2 => ?_⟩
        rw [V29] at q2
        by_cases z : k' = k
        · rw [if_pos z] at q2
          have := Option.some.inj q2
          omega
        · rw [if_neg z] at q2
          exact hn k' b' q1 q2
      have k6 : ∀ t, (mK u t).1 = 6 → (mK (wR (NM u 12 Kd F Q) 29 (va_up (mR (NM u 12 Kd F Q) 29) k (some (mN u)))) t).1 = 6 := by
        intro t z
        have lt : t < mN u := mK_lt (k := (mK u t).1) (N := (mK u t).2) rfl (by rw [z]; decide)
        rw [VK t lt]; exact z
      have pre : PreI (wR (NM u 12 Kd F Q) 29 (va_up (mR (NM u 12 Kd F Q) 29) k (some (mN u)))) k (mN u) := by
        refine ⟨hW, ?_, ?_, ?_, ?_, ?_, ⟨n, by rw [VI 1 (by omega)]; exact n1, ?_⟩, ?_, ?_, by rw [V29, if_pos rfl], N71, ?_⟩
        · rw [VI 47 (by omega)]
          exact Rbk_eq r2 (fun j hj => VI (1 + j) (by omega)) (fun _ _ => rfl)
        · rw [VI 0 (by omega), VI 45 (by omega), VI 44 (by omega), VI 46 (by omega)]; exact r3
        · rw [VI 42 (by omega), VI 54 (by omega)]; exact r4
        · rw [VI 0 (by omega), VI 41 (by omega), VI 70 (by omega)]; exact r5
        · rw [VI 30 (by omega), VI 31 (by omega), VI 32 (by omega), VI 45 (by omega), VI 50 (by omega), VI 51 (by omega), VI 47 (by omega)]; exact r6
        · rw [VI 47 (by omega)]
          exact BL_mv n2 (fun i hi => by rw [VR 12 (by omega) (by decide)]) (fun t _ z => k6 t z) (fun t _ z => k6 t z) cl (fun _ _ => rfl)
        · rcases hio with ⟨z1, z2⟩ | ⟨z1, b', n', z2, z3, z4, z5, z6, z7⟩
          · exact Or.inl ⟨by rw [VI 49 (by omega)]; exact z1, by rw [V29, if_neg (by omega)]; exact z2⟩
          · have lt := BkSh_lt z4
            refine Or.inr ⟨by rw [VI 49 (by omega)]; exact z1, b', n', by rw [V29, if_neg (by omega)]; exact z2, z3, ?_, ?_, by rw [VI b' (by omega)]; exact z6, ?_⟩
            · unfold BkSh at z4 ⊢
              rw [VK b' (by omega), VK (b' + 1) (by omega), VK (b' + 2) (by omega), VK (b' + 3) (by omega), VK (b' + 4) (by omega), VK (b' + 5) (by omega), VK (b' + 6) (by omega), VK (b' + 7) (by omega), VK (b' + 8) (by omega), VK (b' + 9) (by omega), VK (b' + 10) (by omega), VK (b' + 11) (by omega), VR b' (by omega) (by omega), VR (b' + 1) (by omega) (by omega)]
              exact z4
            · rw [VI 48 (by omega)]
              exact Rbk_eq z5 (fun j hj => VI (b' + j) (by omega)) (fun _ _ => rfl)
            · rw [VI 48 (by omega)]
              exact BL_mv z7 (fun i hi => by rw [VR (b' + 11) (by omega) (by omega)]) (fun t _ z => k6 t z) (fun t _ z => k6 t z) cl (fun _ _ => rfl)
        · intro b' hb'
          rw [V29, if_neg (by omega)] at hb'
          rcases hio with ⟨z1, z2⟩ | ⟨z1, b2, n', z2, z3, z4, z5, z6, z7⟩
          · rw [z2] at hb'; cases hb'
          · have lt := BkSh_lt z4
            have : b2 = b' := Option.some.inj (z2.symm.trans hb')
            omega
        · have kk : ∀ i, i < 12 → mK (wR (NM u 12 Kd F Q) 29 (va_up (mR (NM u 12 Kd F Q) 29) k (some (mN u)))) (mN u + i) = Kd i := fun i hi => NM_k (F := F) (Q := Q) hi
          have rr' : ∀ i, i < 12 → mR (wR (NM u 12 Kd F Q) 29 (va_up (mR (NM u 12 Kd F Q) 29) k (some (mN u)))) (mN u + i) = Q i := by
            intro i hi
            show (if mN u + i = 29 then _ else mR (NM u 12 Kd F Q) (mN u + i)) = _
            rw [if_neg (by omega)]; exact NM_r hi
          have e0 := kk 0 (by decide)
          have e0r := rr' 0 (by decide)
          rw [Nat.add_zero] at e0 e0r
          unfold BkSh
          rw [e0, kk 1 (by decide), kk 2 (by decide), kk 3 (by decide), kk 4 (by decide), kk 5 (by decide), kk 6 (by decide), kk 7 (by decide), kk 8 (by decide), kk 9 (by decide), kk 10 (by decide), kk 11 (by decide), e0r, rr' 1 (by decide)]
          exact ⟨d0, d1, d2, d3, d4, d5, d6, d7, d8, d9, d10, d11, f0, f1, f2, f3, f4, f5, f6, f7, f8, f9, f10⟩
      obtain ⟨u1, u2, g1, g2, g3, g4⟩ := img_end hk pre
      refine ⟨0, u1, u2, ?_, hR45_Rel g2, g3, g4⟩
      show fX8_image u 0 (nI k) = _
      unfold fX8_image
      rw [c_within, oB_of, if_pos cx, if_neg (by decide), oK_of (sh0 hS), rf0_4 hS, oNn_of, oA_k (sh29 hS) hk (by decide), clm (by omega), k2]
      show oK u 0 8 19 _ = _
      rw [oK_of (sh0 hS), oNn_of, oP_of, oU_of, e1, oB_of, oA_k (sh29 hNM) hk (by decide)]
      show oS (NM u 12 Kd F Q) (some (mN u)) 0 _ = _
      have eS : ∀ {X : Option (Int32 × Mm)}, oS (NM u 12 Kd F Q) (some (mN u)) 0 X = X := by
        intro X
        show (if (mK (NM u 12 Kd F Q) (mN u)).1 = 0 then X else none) = X
        rw [NM_k0 (by decide), d0]; exact if_pos rfl
      rw [eS, oU_of]
      exact g1
    · have pre : PreI u k b := by
        refine ⟨h1, r2, r3, r4, r5, r6, ⟨n, n1, n2⟩, hio, fun b' hb' => ?_, k2, k3, k4⟩
        rcases (by omega : k = 0 ∨ k = 1) with z | z
        · subst z; exact dj b b' k2 hb'
        · subst z; exact (dj b' b hb' k2).symm
      obtain ⟨u1, u2, g1, g2, g3, g4⟩ := img_end hk pre
      refine ⟨0, u1, u2, ?_, hR45_Rel g2, g3, g4⟩
      show fX8_image u 0 (nI k) = _
      unfold fX8_image
      rw [c_within, oB_of, if_pos cx, if_neg (by decide), oK_of (sh0 hS), rf0_4 hS, oNn_of, oA_k (sh29 hS) hk (by decide), clm (by omega), k2]
      exact g1
  · refine ⟨-1, cRe u (-1) 0, mRe (mT (cRe u (-1) 0)) (-1) 1, ?_, hR45_Rel hS, ?_, Rel_re LRf_LR h (by decide)⟩
    · show fX8_image u 0 x = _
      unfold fX8_image
      rw [c_within, oB_of, if_neg cx, if_pos rfl, oR_of (sh0 hS), c_no hS, oB_of]
    · have hv : hSh (mT (cRe u (-1) 0)) := hS
      show fX9_image (cRe u (-1) 0) 45 x = _
      unfold fX9_image
      rw [oK_of (sh45 (show hSh (cRe u (-1) 0) from hS)), oT, m_in1, oB_of, if_neg cx, if_pos rfl, oR_of (sh45 hv), m_no hv, oB_of]
