/-! ===== image, back ===== -/
set_option maxRecDepth 100000 in
theorem SegR_eq {q : Bool} {op ar op' ar' : Nat → Int32} {f : (Nat → Int32) → Int64} {a b : Nat} (h : SegR q op ar f a b) (e : ∀ i, i < 400 → op' i = op i ∧ ar' i = ar i) : SegR q op' ar' f a b := by
  obtain ⟨h1, h2, p, h3, h4⟩ := h
  exact ⟨h1, h2, p, h3, fun W => RSeg_eq (h4 W) (fun i _ hi => e i (by omega))⟩
set_option maxRecDepth 100000 in
theorem RLaw_eq {r r' : Nat → Int32} {A : LawA} (h : RLaw r A) (e : ∀ x, x < 900 → r' x = r x) : RLaw r' A := by
  obtain ⟨h1, h2, h3⟩ := h
  have eo : ∀ i, i < 400 → (fun k => r' (98 + 2 * k)) i = (fun k => r (98 + 2 * k)) i ∧ (fun k => r' (99 + 2 * k)) i = (fun k => r (99 + 2 * k)) i := fun i hi => ⟨e _ (by omega), e _ (by omega)⟩
  refine ⟨by rw [e 1 (by decide)]; exact h1, h2, fun j hj => ?_⟩
  obtain ⟨g1, g2, g3, g4, g5⟩ := h3 j hj
  refine ⟨by rw [e _ (by omega)]; exact g1, g2, fun z => ?_, fun z => ?_, fun z => ?_⟩
  · obtain ⟨a, b, a1, a2, a3⟩ := g3 z
    exact ⟨a, b, by rw [e _ (by omega)]; exact a1, by rw [e _ (by omega)]; exact a2, SegR_eq a3 eo⟩
  · obtain ⟨x, x1, x2, x3⟩ := g4 z
    exact ⟨x, x1, by rw [e _ (by omega)]; exact x2, by rw [e _ (by omega)]; exact x3⟩
  · obtain ⟨a, b, a1, a2, a3⟩ := g5 z
    exact ⟨a, b, by rw [e _ (by omega)]; exact a1, by rw [e _ (by omega)]; exact a2, SegR_eq a3 eo⟩
set_option maxRecDepth 100000 in
theorem rf_ne : ∀ q ∈ hwRf, q.1 ≠ 12 ∧ q.1 ≠ 29 ∧ q.1 < 71 := by decide +kernel
set_option maxRecDepth 100000 in
/-- what never changes, with other laws or images -/
theorem hSh_of {u u' : Mm} (h : hSh u) (hN : mN u ≤ mN u') (hK : ∀ a, a < 71 → mK u' a = mK u a) (hR : ∀ a, a < 71 → a ≠ 12 → a ≠ 29 → mR u' a = mR u a) (hL : ∀ a, a < 71 → mL u' a = mL u a) : hSh u' := by
  obtain ⟨h1, h2, h3, h4, h5, h6, h7⟩ := h
  have h1' : 71 ≤ mN u := h1
  refine ⟨show 71 ≤ mN u' by omega, fun i hi => (hK i hi).trans (h2 i hi), fun q hq => ?_, fun j hj => (congrFun (hL 60 (by decide)) j).trans (h4 j hj), fun j hj => (congrFun (hL 61 (by decide)) j).trans (h5 j hj), fun j hj => (congrFun (hL 62 (by decide)) j).trans (h6 j hj), fun j hj => (congrFun (hL 68 (by decide)) j).trans (h7 j hj)⟩
  obtain ⟨n1, n2, n3⟩ := rf_ne q hq
  rw [hR q.1 n3 n1 n2]
  exact h3 q hq
set_option maxRecDepth 100000 in
/-- the laws that a book has, in another memory, at another place -/
theorem BL_mv {u u' : Mm} {lw lw' n : Nat} {r r' : Nat → Int32} (h : BL u lw n r) (hl : ∀ i, i < 6 → mR u' lw' i = mR u lw i) (ht : ∀ t, 71 ≤ t → (mK u t).1 = 6 → (mK u' t).1 = 6) (ht2 : ∀ t, (∃ i, mR u lw i = some t) → (mK u t).1 = 6 → (mK u' t).1 = 6) (hc : ∀ t A, 71 ≤ t → CLaw u t A → (∀ k b, k < 2 → mR u 29 k = some b → t + 5 < b ∨ b + 11 < t) → CLaw u' t A ∧ ∀ k b, k < 2 → mR u' 29 k = some b → t + 5 < b ∨ b + 11 < t) (hr : ∀ i, i < 5530 → r' i = r i) : BL u' lw' n r' := by
  obtain ⟨h1, h2, h3⟩ := h
  refine ⟨h1, fun i hi => ?_, fun i hi => ?_⟩
  · rw [hl i hi]
    rcases h2 i hi with z | ⟨t, z, z2⟩
    · exact Or.inl z
    · exact Or.inr ⟨t, z, ht2 t ⟨i, z⟩ z2⟩
  · obtain ⟨t, t1, ⟨t2, A, a1, a2, a3⟩, t3⟩ := h3 i hi
    obtain ⟨c1, c2⟩ := hc t A t2 a1 t3
    exact ⟨t, (hl i (by omega)).trans t1, ⟨t2, A, c1, RLaw_eq a2 (fun x hx => hr _ (by omega)), a3⟩, c2⟩
set_option maxRecDepth 100000 in
theorem Rmi_no8 {c0 m45 c44 m46 : Nat → Int32} (h : Rmi c0 m45 c44 m46) : Rmi c0 (upd m45 8 0) c44 m46 := Rmi_upd h (by decide)
set_option maxRecDepth 100000 in
theorem s39 : hwS_39 (Rel LR) := by
  intro x u h
  have hS := h.1
  have hT : hSh (mT u) := hS
  by_cases cx : 0 ≤ x ∧ x ≤ 1
  · obtain ⟨k, hk, rfl⟩ := sdI cx
    obtain ⟨hN0, i0, i1, dj⟩ := id h.2.2.2.2.2.2
    have hik : IMk u k := by
      rcases (by omega : k = 0 ∨ k = 1) with z | z <;> subst z
      · exact i0
      · exact i1
    rcases hik with ⟨k1, k2⟩ | ⟨k1, b, n, k2, k3, k4, k5, k6, k7⟩
    · refine ⟨-2, cRe u (-2) 1, mRe (mT (cRe u (-2) 1)) (-2) 2, ?_, hR45_Rel hS, ?_, Rel_re LRf_LR h (by decide)⟩
      · show fX8_back u 0 (nI k) = _
        unfold fX8_back
        rw [c_within, oB_of, if_pos cx, if_neg (by decide), oK_of (sh0 hS), rf0_4 hS, oNn_of, oA_k (sh29 hS) hk (by decide), clm (by omega), k2]
        show oR u 0 8 _ = _
        rw [oR_of (sh0 hS), c_refuse hS (-2) 1 (by decide), oB_of]
      · have hv : hSh (mT (cRe u (-2) 1)) := hS
        show fX9_back (cRe u (-2) 1) 45 (nI k) = _
        unfold fX9_back
        rw [oK_of (sh45 (show hSh (cRe u (-2) 1) from hS)), oT, m_in1, oB_of, if_pos cx, if_neg (by decide), oK_of (sh45 hv), rf45_5 hv, oNn_of]
        have e49 : ∀ {X : Int32 → Option (Int32 × Mm)}, oA (mT (cRe u (-2) 1)) 49 12 (nI k) (oI (mI (mT (cRe u (-2) 1)) 49 (nI k).toNatClampNeg) X) = X 0 := by
          intro X
          rw [oA_k (sh49 hv) hk (by decide), oI_of, clm (by omega), show mI (mT (cRe u (-2) 1)) 49 k = 0 from k1]
        rw [e49, if_pos rfl, oR_of (sh45 hv), m_refuse hv (-2) 2 (by decide), oB_of]
    · -- the class's copy
      have cp := c_bcopy (u := u) (a := b) (b := 1) k4 (BkSh1 hS) (by omega) k7.2.1
      have hU : ∃ U, U = wR (SB u 1 (bkD (fun j => mI u (b + j)) (fun j => mI u (1 + j)))) (1 + 11) (lwC (mR u (1 + 11)) (mR u (b + 11)) 6) := ⟨_, rfl⟩
      obtain ⟨U, eU⟩ := hU
      rw [← eU] at cp
      have UN : mN U = mN u := by rw [eU]; rfl
      have UK : mK U = mK u := by rw [eU]; rfl
      have UR : ∀ a, a ≠ 12 → mR U a = mR u a := by
        intro a ha
        rw [eU]
        show (if a = 1 + 11 then _ else mR u a) = _
        rw [if_neg ha]
      have UR12 : ∀ i, i < 6 → mR U 12 i = mR u (b + 11) i := by
        intro i hi
        rw [eU]
        show lwC (mR u (1 + 11)) (mR u (b + 11)) 6 i = _
        unfold lwC
        rw [if_pos hi]
      have UI : ∀ a, (a = 0 ∨ 12 < a) → mI U a = mI u a := by
        intro a ha
        rw [eU]
        exact SB_out (by omega)
      have UB : ∀ j, j ≤ 11 → mI U (1 + j) = bkD (fun j => mI u (b + j)) (fun j => mI u (1 + j)) j := by
        intro j hj
        rw [eU]
        exact SB_in hj
      have hSU : hSh U := hSh_of hS (by omega) (fun a _ => by rw [UK]) (fun a _ h1 _ => UR a h1) (fun a _ => by rw [eU]; rfl)
      clear eU
      have h30 : ∀ g, hSh (wI U 30 g) := fun _ => hSU
      have h0 : ∀ g g', hSh (wI (wI U 30 g) 0 g') := fun _ _ => hSU
      -- the reference, from what the class leaves
      have hvT : hSh (mT (wI (wI U 30 (upd (mI U 30) 3 0)) 0 (upd (mI U 0) 18 0))) := hSU
      have mb := m_back1 hvT hk (N := 994469) (row := mI (mT (wI (wI U 30 (upd (mI U 30) 3 0)) 0 (upd (mI U 0) 18 0))) 47) 5530 0 (by decide)
      rw [bcF0, wI_id] at mb
      have e48 : mI (mT (wI (wI U 30 (upd (mI U 30) 3 0)) 0 (upd (mI U 0) 18 0))) 48 = mI u 48 := UI 48 (by omega)
      have e47 : mI (mT (wI (wI U 30 (upd (mI U 30) 3 0)) 0 (upd (mI U 0) 18 0))) 47 = mI u 47 := UI 47 (by omega)
      rw [e48, e47] at mb
      refine ⟨0, wI (wI U 30 (upd (mI U 30) 3 0)) 0 (upd (mI U 0) 18 0), wI (wI (wI (mT (wI (wI U 30 (upd (mI U 30) 3 0)) 0 (upd (mI U 0) 18 0))) 47 (bcF (mI u 47) (mI u 48) k 5530)) 45 (upd (mI (mT (wI (wI U 30 (upd (mI U 30) 3 0)) 0 (upd (mI U 0) 18 0))) 45) 8 0)) 45 (upd (upd (mI (mT (wI (wI U 30 (upd (mI U 30) 3 0)) 0 (upd (mI U 0) 18 0))) 45) 8 0) 1 0), ?_, hR45_Rel (h0 _ _), ?_, ?_⟩
      rotate_left
      · show fX9_back (wI (wI U 30 (upd (mI U 30) 3 0)) 0 (upd (mI U 0) 18 0)) 45 (nI k) = _
        unfold fX9_back
        have e49 : ∀ {X : Int32 → Option (Int32 × Mm)}, oA (mT (wI (wI U 30 (upd (mI U 30) 3 0)) 0 (upd (mI U 0) 18 0))) 49 12 (nI k) (oI (mI (mT (wI (wI U 30 (upd (mI U 30) 3 0)) 0 (upd (mI U 0) 18 0))) 49 (nI k).toNatClampNeg) X) = X 1 := by
          intro X
          rw [oA_k (sh49 hvT) hk (by decide), oI_of, clm (by omega), show mI (mT (wI (wI U 30 (upd (mI U 30) 3 0)) 0 (upd (mI U 0) 18 0))) 49 = mI u 49 from UI 49 (by omega), k1]
        rw [oK_of (sh45 (h0 _ _)), oT, m_in1, oB_of, if_pos cx, if_neg (by decide), oK_of (sh45 hvT), rf45_5 hvT, oNn_of, e49, if_neg (by decide)]
        exact mb
      · -- what holds behind
        have row' : ∀ i, i < 5530 → bcF (mI u 47) (mI u 48) k 5530 i = mI u 48 (5530 * k + i) := fun i hi => by unfold bcF; rw [if_pos hi]
        have bkN : bkD (fun j => mI u (b + j)) (fun j => mI u (1 + j)) 0 14 = nI n := k6
        have cl : ∀ (u2 : Mm), mK u2 = mK u → (∀ a, a ≠ 12 → mR u2 a = mR u a) → (∀ a, 71 ≤ a → mI u2 a = mI u a) → ∀ t A, 71 ≤ t → CLaw u t A → (∀ k b, k < 2 → mR u 29 k = some b → t + 5 < b ∨ b + 11 < t) → CLaw u2 t A ∧ ∀ k b, k < 2 → mR u2 29 k = some b → t + 5 < b ∨ b + 11 < t := by
          intro u2 q1 q2 q3 t A ht hc hn
          refine ⟨CLaw_at hc (fun a a1 a2 => ⟨by rw [q1], q2 a (by omega), q3 a (by omega)⟩), ?_⟩
          rw [q2 29 (by decide)]; exact hn
        have im : ∀ (u2 : Mm), mK u2 = mK u → (∀ a, a ≠ 12 → mR u2 a = mR u a) → (∀ a, 71 ≤ a → mI u2 a = mI u a) → mI u2 48 = mI u 48 → mI u2 49 = mI u 49 → ∀ k, IMk u k → IMk u2 k := by
          intro u2 q1 q2 q3 q4 q5 k hk
          rcases hk with ⟨z1, z2⟩ | ⟨z1, b, n, z2, z3, z4, z5, z6, z7⟩
          · exact Or.inl ⟨by rw [q5]; exact z1, by rw [q2 29 (by decide)]; exact z2⟩
          · refine Or.inr ⟨by rw [q5]; exact z1, b, n, by rw [q2 29 (by decide)]; exact z2, z3, ?_, ?_, by rw [q3 b z3]; exact z6, ?_⟩
            · unfold BkSh at z4 ⊢
              rw [q1, q2 b (by omega), q2 (b + 1) (by omega)]; exact z4
            · rw [show (fun j => mI u2 (b + j)) = (fun j => mI u (b + j)) from funext (fun j => q3 _ (by omega)), q4]; exact z5
            · rw [q4]
              exact BL_mv z7 (fun i _ => by rw [q2 (b + 11) (by omega)]) (fun t _ z => by rw [q1]; exact z) (fun t _ z => by rw [q1]; exact z) (cl u2 q1 q2 q3) (fun _ _ => rfl)
        obtain ⟨-, r2, r3, r4, r5, r6, -⟩ := h
        refine ⟨?_, ?_, ?_, ?_, ?_, ?_, ?_⟩
        · exact hSU
        · -- the books
          have hb := Rbk_bkD (D := fun j => mI u (1 + j)) k5
          refine Rbk_eq hb (fun j hj => ?_) (fun i hi => ?_)
          · unfold mT
            simp only [mI_wI]
            repeat rw [if_neg (by omega)]
            exact UB j (by omega)
          · show bcF (mI u 47) (mI u 48) k 5530 i = _
            exact row' i (by omega)
        · show Rmi (upd (mI U 0) 18 0) (upd (upd (upd (mI U 45) 0 0) 8 0) 1 0) (mI U 44) (mI U 46)
          rw [UI 0 (by omega), UI 45 (by omega), UI 44 (by omega), UI 46 (by omega)]
          exact Rmi_ok (Rmi_upd (Rmi_upd r3 (by decide)) (by decide))
        · show Rta (mI U 42) (mI U 54)
          rw [UI 42 (by omega), UI 54 (by omega)]; exact r4
        · show Rde (upd (mI U 0) 18 0) (mI U 41) (mI U 70)
          rw [UI 0 (by omega), UI 41 (by omega), UI 70 (by omega)]; exact r5
        · show Rpa (upd (mI U 30) 3 0) (mI U 31) (mI U 32) (upd (upd (upd (mI U 45) 0 0) 8 0) 1 0) (mI U 50) (mI U 51) _
          rw [UI 30 (by omega), UI 31 (by omega), UI 32 (by omega), UI 45 (by omega), UI 50 (by omega), UI 51 (by omega)]
          exact Rpa_upd (Rpa_clear (Rpa_upd r6 (by decide))) (by decide)
        · have q3 : ∀ a, 71 ≤ a → mI (wI (wI (wI (mT (wI (wI U 30 (upd (mI U 30) 3 0)) 0 (upd (mI U 0) 18 0))) 47 (bcF (mI u 47) (mI u 48) k 5530)) 45 (upd (mI (mT (wI (wI U 30 (upd (mI U 30) 3 0)) 0 (upd (mI U 0) 18 0))) 45) 8 0)) 45 (upd (upd (mI (mT (wI (wI U 30 (upd (mI U 30) 3 0)) 0 (upd (mI U 0) 18 0))) 45) 8 0) 1 0)) a = mI u a := by
            intro a ha
            unfold mT
            simp only [mI_wI]
            repeat rw [if_neg (by omega)]
            exact UI a (by omega)
          refine ⟨⟨n, ?_, ?_⟩, im (wI (wI (wI (mT (wI (wI U 30 (upd (mI U 30) 3 0)) 0 (upd (mI U 0) 18 0))) 47 (bcF (mI u 47) (mI u 48) k 5530)) 45 (upd (mI (mT (wI (wI U 30 (upd (mI U 30) 3 0)) 0 (upd (mI U 0) 18 0))) 45) 8 0)) 45 (upd (upd (mI (mT (wI (wI U 30 (upd (mI U 30) 3 0)) 0 (upd (mI U 0) 18 0))) 45) 8 0) 1 0)) UK UR q3 (UI 48 (by omega)) (UI 49 (by omega)) 0 i0, im (wI (wI (wI (mT (wI (wI U 30 (upd (mI U 30) 3 0)) 0 (upd (mI U 0) 18 0))) 47 (bcF (mI u 47) (mI u 48) k 5530)) 45 (upd (mI (mT (wI (wI U 30 (upd (mI U 30) 3 0)) 0 (upd (mI U 0) 18 0))) 45) 8 0)) 45 (upd (upd (mI (mT (wI (wI U 30 (upd (mI U 30) 3 0)) 0 (upd (mI U 0) 18 0))) 45) 8 0) 1 0)) UK UR q3 (UI 48 (by omega)) (UI 49 (by omega)) 1 i1, ?_⟩
          · show mI U (1 + 0) 14 = _
            rw [UB 0 (by decide)]
            exact bkN
          · exact BL_mv k7 UR12 (fun t _ z => by show (mK U t).1 = 6; rw [UK]; exact z) (fun t _ z => by show (mK U t).1 = 6; rw [UK]; exact z) (cl (wI (wI (wI (mT (wI (wI U 30 (upd (mI U 30) 3 0)) 0 (upd (mI U 0) 18 0))) 47 (bcF (mI u 47) (mI u 48) k 5530)) 45 (upd (mI (mT (wI (wI U 30 (upd (mI U 30) 3 0)) 0 (upd (mI U 0) 18 0))) 45) 8 0)) 45 (upd (upd (mI (mT (wI (wI U 30 (upd (mI U 30) 3 0)) 0 (upd (mI U 0) 18 0))) 45) 8 0) 1 0)) UK UR q3) (fun i hi => row' i hi)
          · intro b0 b1 e0 e1
            have e0' : mR U 29 0 = some b0 := e0
            have e1' : mR U 29 1 = some b1 := e1
            rw [UR 29 (by decide)] at e0' e1'
            exact dj b0 b1 e0' e1'
      · show fX8_back u 0 (nI k) = _
        unfold fX8_back
        rw [c_within, oB_of, if_pos cx, if_neg (by decide), oK_of (sh0 hS), rf0_4 hS, oNn_of, oA_k (sh29 hS) hk (by decide), clm (by omega), k2]
        show oK u 0 8 19 _ = _
        rw [oK_of (sh0 hS), rf0_0 hS, oNn_of, oK_of (sh0 hS), oNn_of, oA_k (sh29 hS) hk (by decide), k2, oNn_of, oR_of (sh1 hS), cp, oB_of, oK_of (sh0 hSU), rf0_5 hSU, oNn_of, oR_of (sh30 hSU)]
        unfold fX3_clear
        rw [oK_of (sh30 hSU), oU_of, oB_of, oR_of (sh0 (h30 _)), c_accept (h30 _), oB_of]
        rfl
  · refine ⟨-1, cRe u (-1) 0, mRe (mT (cRe u (-1) 0)) (-1) 1, ?_, hR45_Rel hS, ?_, Rel_re LRf_LR h (by decide)⟩
    · show fX8_back u 0 x = _
      unfold fX8_back
      rw [c_within, oB_of, if_neg cx, if_pos rfl, oR_of (sh0 hS), c_no hS, oB_of]
    · have hv : hSh (mT (cRe u (-1) 0)) := hS
      show fX9_back (cRe u (-1) 0) 45 x = _
      unfold fX9_back
      rw [oK_of (sh45 (show hSh (cRe u (-1) 0) from hS)), oT, m_in1, oB_of, if_neg cx, if_pos rfl, oR_of (sh45 hv), m_no hv, oB_of]
