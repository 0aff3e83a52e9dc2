/-! ===== a reference into a row of references ===== -/
section EAAST
variable {Y : MI} {d kc ks pc : Nat} {res : Option Value × Mm} {l l' : List (Nat × Value)} {st : List Value} {u : Mm} {ρ : Type} {r : ρ} {X B : Option ρ}
theorem eVq {kd : Nat} (hk13 : kd = 13 ∨ kd = 14) (z : Nat) (u : Mm) (i : Nat) : eV z u i kd = fun j => va_rf ((mR u i j).map (fun a => z + a)) := by
  rcases hk13 with rfl | rfl
  · exact eV13 z u i
  · exact eV14 z u i
theorem E_aast {kd t0 ci : Nat} {a : Nat} {C : String} {T : u_T} {N : Nat} {i : Int32} {x : Option Nat} (ht0 : ∀ g : hG, (hwTys g)[t0]? = some (g.2.2.1 kd, .object C)) (hk13 : kd = 13 ∨ kd = 14) (hC : hwCl[ci]? = some (C, T, N)) (hci : ci < 10)
    (h : oA u a kd i (oS u x ci X) = some r) (hd : decode Y.2.1 pc = .ok (.aastore, 1)) (k : X = some r → Eg Y d kc ks res (pc + 1) l st (wR u a (va_up (mR u a) i.toNatClampNeg x))) : Eg Y d kc ks res pc l (va_rf x :: .int i :: .ref a :: st) u := by
  intro g p lch e R s m args below meth c H locs cells slots ls A h1 h2 h3 h4 I hl
  obtain ⟨⟨g1, g2⟩, g3⟩ := oA_some h
  have hK : va_K g.2.1 hwCl (hwTys g) s := A.2.2.2.2.2.2.2.2.1
  have hc := I.1.arr (mK_eta g1) (by omega) (by omega)
  rw [eVq hk13] at hc
  have hfin : ∀ (H1 : Heap) (w : Value), w = va_rf (x.map (fun b => g.1 + b)) → H1[g.1 + a]? = some ((arrV (g.2.2.1 kd) (mK u a).2 (fun j => va_rf ((mR u a j).map (fun b => g.1 + b)))).setSlot i.toNatClampNeg w) → H1.size = H.size → (∀ q, q ≠ g.1 + a → H1[q]? = H[q]?) → hInv g s (wR u a (va_up (mR u a) i.toNatClampNeg x)) H1 (locs ++ [⟨g.1 + a, i.toNatClampNeg⟩]) := by
    intro H1 w hw e1 z oq
    refine I.arr z oq (mK_eta g1) (by omega) rfl rfl (fun _ _ => rfl) (fun _ _ => rfl) (fun i hi => by rw [mR_wR, if_neg hi]) ?_
    rw [e1, eVq hk13, arrV_store, mR_wR, if_pos rfl, hw]
    congr 2
    funext q
    by_cases hq : q = i.toNatClampNeg <;> simp [updV, va_up, hq]
  cases x with
  | none =>
    refine va_WaastN (C := C) A.1 A.2.1 hc ((hK.2 t0 _ (ht0 g)).1 _ _) (fun h => by cases h) (by show ¬ (i < 0 ∨ (arrV _ _ _).slots.size ≤ _); rw [arrV_size]; exact in_of g2) rfl rfl hd fun H1 e1 z oq => ?_
    exact k g3 g p lch e R s m args below meth c H1 _ cells slots ls A h1 h2 h3 h4 (hfin H1 _ rfl e1 z oq) hl
  | some v =>
    obtain ⟨g4, g5⟩ := ite_some (show (if (mK u v).1 = ci then X else none) = some r from g3)
    obtain ⟨cellV, q1, q2, q3, -⟩ := I.1.obj (mK_eta g4) hci
    have hcls := (hK.1 ci _ hC).2
    obtain ⟨kA, comp, k1, k2, k3, -⟩ := (hK.2 t0 _ (ht0 g)).2
    have hcomp : comp = g.2.1.1 ci := Option.some.inj (k3.symm.trans hcls.1)
    subst hcomp
    obtain ⟨kC, hkC, -⟩ := hcls.2
    refine W.aast A.1 A.2.1 hc (fun q h => by cases h) (fun h => by cases h) k1 k2 rfl hkC ⟨nat_of32 g2.1, by show _ < (arrV _ _ _).slots.size; rw [arrV_size]; exact g2.2⟩ q1 (fun q h => by rw [q3] at h; cases h) (by rw [q2]; exact hkC) (by rw [q2]; exact va_assign hcls) rfl rfl hd fun H1 e1 z oq => ?_
    exact k g5 g p lch e R s m args below meth c H1 _ cells slots ls A h1 h2 h3 h4 (hfin H1 _ rfl e1 z oq) hl
end EAAST
