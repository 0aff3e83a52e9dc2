/-! ===== rows: fields, arrays, new cells ===== -/
def CF (ci : Nat) (C : String) (T : u_T) (N : Nat) : Prop := hwCl[ci]? = some (C, T, N) ∧ ci < 10 ∧ (∀ w ∈ u_ws C T N, w ∈ UW) ∧ (∀ k, k < N → parseFieldDescriptor (T k).2.2.1 = some (fT ci k)) ∧ ∀ a, a < N → ∀ b, b < N → a ≠ b → (T a).2.1 ≠ (T b).2.1
def LK (own : String) (idx : Nat) (T : u_T) (j : Nat) : Prop := Cond.fieldLink own idx (T j).1 (T j).2.1 (T j).2.2.1 ∈ UW ∨ ∃ host, Cond.fieldLinkNest own idx (T j).1 (T j).2.1 (T j).2.2.1 host ∈ UW
theorem cv_fvv (z : Nat) (ty : FieldType) (x : Int32) (y : Int64) (r : Option Nat) : cv z (fvv ty x y r) = fvv ty x y (r.map (fun a => z + a)) := by
  cases ty <;> first | rfl | exact cv_rf z r
theorem fvv_zero (ty : FieldType) (h : ∀ e, ty ≠ .float ∧ ty ≠ .double ∨ e) : fvv ty 0 0 none = defaultValue ty := by
  have h1 := h False
  cases ty <;> first | rfl | simp at h1
theorem fits_z {x : Int32} (h : x = 0 ∨ x = 1) : fits .boolean (.int x) = true := by rcases h with rfl | rfl <;> decide +kernel
section EHEAP
variable {Y : MI} {d kc ks pc : Nat} {res : Option Value × Mm} {l l' : List (Nat × Value)} {st : List Value} {u : Mm} {ρ : Type} {r : ρ} {X B : Option ρ}
def oK (u : Mm) (o ci N : Nat) (X : Option ρ) : Option ρ := if mK u o = (ci, N) then X else none
def oA (u : Mm) (a k : Nat) (i : Int32) (X : Option ρ) : Option ρ := if (mK u a).1 = k ∧ 0 ≤ i ∧ i.toNatClampNeg < (mK u a).2 then X else none
def oZ (x : Int32) (X : Option ρ) : Option ρ := if x = 0 ∨ x = 1 then X else none
def oNn (x : Option Nat) (F : Nat → Option ρ) : Option ρ := match x with
  | none => none
  | some a => F a
def oN (cap : Nat) (n : Int32) (X : Option ρ) : Option ρ := if 0 ≤ n ∧ n.toNatClampNeg ≤ cap then X else none
def oS (u : Mm) (x : Option Nat) (ci : Nat) (X : Option ρ) : Option ρ := match x with
  | none => X
  | some v => if (mK u v).1 = ci then X else none
theorem oK_some {o ci N : Nat} (h : oK u o ci N X = some r) : mK u o = (ci, N) ∧ X = some r := ite_some h
theorem oA_some {a k : Nat} {i : Int32} (h : oA u a k i X = some r) : ((mK u a).1 = k ∧ 0 ≤ i ∧ i.toNatClampNeg < (mK u a).2) ∧ X = some r := ite_some h
theorem oZ_some {x : Int32} (h : oZ x X = some r) : (x = 0 ∨ x = 1) ∧ X = some r := ite_some h
theorem oN_some {cap : Nat} {n : Int32} (h : oN cap n X = some r) : (0 ≤ n ∧ n.toNatClampNeg ≤ cap) ∧ X = some r := ite_some h
theorem oNn_some {x : Option Nat} {F : Nat → Option ρ} (h : oNn x F = some r) : ∃ a, x = some a ∧ F a = some r := by
  cases x with
  | none => cases h
  | some a => exact ⟨a, rfl, h⟩
theorem in_of {i : Int32} {n : Nat} (h : 0 ≤ i ∧ i.toNatClampNeg < n) : ¬ (i < 0 ∨ n ≤ i.toNatClampNeg) := by
  rintro (q | q)
  · exact absurd h.1 (Int32.not_le.mpr q)
  · omega
theorem E_get {C : String} {T : u_T} {N ci j o idx : Nat} (hd : decode Y.2.1 pc = .ok (.getfield idx, 3)) (hC : CF ci C T N) (hL : LK Y.1.cls idx T j) (hj : j < N) (hk : mK u o = (ci, N))
    (k : Eg Y d kc ks res (pc + 3) l (fvv (fT ci j) (mI u o j) (mL u o j) (mR u o j) :: st) u) : Eg Y d kc ks res pc l (.ref o :: st) u := by
  intro g p lch e R s m args below meth c H locs cells slots ls A h1 h2 h3 h4 I hl
  have hw := k g p lch e R s m args below meth c H locs cells slots ls A h1 h2 h3 h4 I hl
  obtain ⟨hx, hb, -, -, -, -, hown, hts, hK, -⟩ := A
  obtain ⟨cell, q1, q2, q3, q4⟩ := I.1.obj hk hC.2.1
  obtain ⟨hS, hfc, kC, hkC, hkind⟩ := hK.1 ci _ hC.1
  obtain ⟨cf, kf, fi, f, hi, hsl⟩ := hS j hj
  have hv : cell.slots[f.slot]? = some (cv g.1 (fvv (fT ci j) (mI u o j) (mL u o j) (mR u o j))) := by
    rw [hsl, q4 j hj, cv_fvv]; rfl
  rcases hL with hL | ⟨host, hL⟩
  · exact W.getf hx hb hown (hts _ hL) hi (u_facts hfc hkC (u_lays hts hC.2.2.1 hj) hi).1 q1 (by rw [q3]; exact fun h => by cases h) hv rfl rfl hd hw
  · exact va_Wgetf hx hb hown (hts _ hL) hi (u_facts hfc hkC (u_lays hts hC.2.2.1 hj) hi).1 q1 (by rw [q3]; exact fun h => by cases h) hv rfl rfl hd hw
theorem E_getI {C : String} {T : u_T} {N ci j o idx : Nat} (h : oK u o ci N X = some r) (hd : decode Y.2.1 pc = .ok (.getfield idx, 3)) (hC : CF ci C T N) (hL : LK Y.1.cls idx T j) (hj : j < N) (ht : ∀ x y r, fvv (fT ci j) x y r = .int x)
    (k : X = some r → Eg Y d kc ks res (pc + 3) l (.int (mI u o j) :: st) u) : Eg Y d kc ks res pc l (.ref o :: st) u :=
  E_get hd hC hL hj (oK_some h).1 (by rw [ht]; exact k (oK_some h).2)
theorem E_getL {C : String} {T : u_T} {N ci j o idx : Nat} (h : oK u o ci N X = some r) (hd : decode Y.2.1 pc = .ok (.getfield idx, 3)) (hC : CF ci C T N) (hL : LK Y.1.cls idx T j) (hj : j < N) (ht : ∀ x y r, fvv (fT ci j) x y r = .long y)
    (k : X = some r → Eg Y d kc ks res (pc + 3) l (.long (mL u o j) :: st) u) : Eg Y d kc ks res pc l (.ref o :: st) u :=
  E_get hd hC hL hj (oK_some h).1 (by rw [ht]; exact k (oK_some h).2)
theorem E_getA {C : String} {T : u_T} {N ci j o idx : Nat} {F : Nat → Option ρ} (h : oK u o ci N (oNn (mR u o j) F) = some r) (hd : decode Y.2.1 pc = .ok (.getfield idx, 3)) (hC : CF ci C T N) (hL : LK Y.1.cls idx T j) (hj : j < N) (ht : ∀ x y r, fvv (fT ci j) x y r = va_rf r)
    (k : ∀ a, F a = some r → Eg Y d kc ks res (pc + 3) l (.ref a :: st) u) : Eg Y d kc ks res pc l (.ref o :: st) u := by
  obtain ⟨h1, h2⟩ := oK_some h
  obtain ⟨a, ha, hF⟩ := oNn_some h2
  refine E_get hd hC hL hj h1 ?_
  rw [ht, ha]
  exact k a hF
/-- a field is written: what the memory is then -/
theorem E_put {C : String} {T : u_T} {N ci j o idx : Nat} {v : Value} {u' : Mm} (hd : decode Y.2.1 pc = .ok (.putfield idx, 3)) (hC : CF ci C T N) (hL : LK Y.1.cls idx T j) (hj : j < N) (hk : mK u o = (ci, N))
    (hfin : (T j).2.2.2 = false ∨ ((T j).2.2.2 = true ∧ Y.1.name = "<init>" ∧ (T j).1 = Y.1.cls ∧ Cond.fieldLink Y.1.cls idx (T j).1 (T j).2.1 (T j).2.2.1 ∈ UW)) (hn : ∀ z, narrow (fT ci j) (cv z v) = cv z v) (hfit : ∀ z, fits (fT ci j) (cv z v) = true)
    (hN : mN u' = mN u) (hKu : mK u' = mK u) (hI : ∀ i, i ≠ o → mI u' i = mI u i) (hLu : ∀ i, i ≠ o → mL u' i = mL u i) (hR : ∀ i, i ≠ o → mR u' i = mR u i) (hV : ∀ z i, updV (oV z u o ci) j (cv z v) i = oV z u' o ci i)
    (k : Eg Y d kc ks res (pc + 3) l st u') : Eg Y d kc ks res pc l (v :: .ref o :: st) u := by
  intro g p lch e R s m args below meth c H locs cells slots ls A h1 h2 h3 h4 I hl
  have hw := fun H1 locs1 I1 => k g p lch e R s m args below meth c H1 locs1 cells slots ls A h1 h2 h3 h4 I1 hl
  obtain ⟨hx, hb, -, -, -, hnm, hown, hts, hK, -⟩ := A
  obtain ⟨cell, q1, q2, q3, q4⟩ := I.1.obj hk hC.2.1
  have hap := va_apart (own := Y.1.cls) (D := g.2.1) hts hC.2.2.1 (fT ci) hC.2.2.2.1 hC.2.2.2.2 hK hC.1
  obtain ⟨hS, hfc, kC, hkC, hkind⟩ := hK.1 ci _ hC.1
  obtain ⟨cf, kf, fi, f, hi, hsl⟩ := hS j hj
  have hst := (u_facts hfc hkC (u_lays hts hC.2.2.1 hj) hi).1
  have hend : ∀ H' : Heap, H'[g.1 + o]? = some (cell.setSlot f.slot (cv g.1 v)) → H'.size = H.size → (∀ q, q ≠ g.1 + o → H'[q]? = H[q]?) → W p lch e R s m args below meth c H' (locs ++ [⟨g.1 + o, f.slot⟩]) cells slots (MQ below (hQc g res) args s (cells + kc) (slots + ks) (fun q => g.1 ≤ q)) (F0 m (pc + 3) ls (st.map (cv g.1))) := by
    intro H' e1 e2 e3
    refine hw H' _ ⟨?_, fun q hq => (e3 q (by omega)).trans (I.2.1 q hq), fun x hx => ?_⟩
    · refine I.1.put e2 e3 hN ?_ (fun i _ => by rw [hKu]) hI hLu hR
      unfold hAt
      rw [hKu, hk]
      rw [if_pos hC.2.1]
      rw [hsl] at e1
      exact t_OB.to (V := updV (oV g.1 u o ci) j (cv g.1 v)) ⟨_, e1, q2, q3, t_set q4 hap hj _⟩ (fun i _ => hV g.1 i)
    · rcases List.mem_append.mp hx with h | h
      · exact I.2.2 x h
      · rw [List.mem_singleton.mp h]; exact Nat.le_add_right _ _
  have hlt : f.slot < cell.slots.size := by rw [hsl]; exact k2_hasslot (q4 j hj)
  rcases hfin with hfin | ⟨hfin, hin2, hdecl, hlnk⟩
  · have hlay := hts _ (hC.2.2.1 _ (u_in_lay hj))
    unfold u_lay at hlay
    rw [if_neg (by rw [hfin]; decide)] at hlay
    have h6 := u_store hfc hkC hkind hlay hi (hC.2.2.2.1 j hj) (hn g.1) (hfit g.1)
    rcases hL with hL | ⟨host, hL⟩
    · exact W.putK hx hb (f := f) ⟨hown, hts _ hL, ⟨_, _, _, hi⟩, hst⟩ (by rw [q2]; exact h6) q1 q3 hlt rfl rfl hd hend
    · exact va_WputK hx hb (f := f) hown (hts _ hL) hi hst (by rw [q2]; exact h6) q1 q3 hlt rfl rfl hd hend
  · have hlay := hts _ (hC.2.2.1 _ (u_in_lay hj))
    unfold u_lay at hlay
    rw [if_pos hfin] at hlay
    have hcf : m.cls = cf := by
      obtain ⟨_, _, c', _, _, _, -, -, hf', -, -, -, hown2, -⟩ := Cond.laysFinal_spec hlay
      have e1 : c' = cf := by have := hi.symm.trans hf'; simp at this; exact this.1.symm
      rw [hdecl] at hown2
      rw [← e1]; exact Option.some.inj (hown.symm.trans hown2)
    have h6 := u_fits hfc hkC hkind (Or.inr hlay) hi (hC.2.2.2.1 j hj) (hn g.1) (hfit g.1)
    exact W.putFinK hx hb hown (hts _ hlnk) hi hst hcf (hnm.trans hin2) (by rw [q2]; exact h6) q1 q3 hlt rfl rfl hd hend
/-- what a put needs of the field: not final, or final in its constructor -/
def PF (Y : MI) (idx : Nat) (T : u_T) (j : Nat) : Prop := (T j).2.2.2 = false ∨ ((T j).2.2.2 = true ∧ Y.1.name = "<init>" ∧ (T j).1 = Y.1.cls ∧ Cond.fieldLink Y.1.cls idx (T j).1 (T j).2.1 (T j).2.2.1 ∈ UW)
theorem E_putI {C : String} {T : u_T} {N ci j o idx : Nat} {x : Int32} (h : oK u o ci N X = some r) (hd : decode Y.2.1 pc = .ok (.putfield idx, 3)) (hC : CF ci C T N) (hL : LK Y.1.cls idx T j) (hj : j < N) (hfin : PF Y idx T j) (ht : fT ci j = .int)
    (k : X = some r → Eg Y d kc ks res (pc + 3) l st (wI u o (upd (mI u o) j x))) : Eg Y d kc ks res pc l (.int x :: .ref o :: st) u := by
  refine E_put (u' := wI u o (upd (mI u o) j x)) hd hC hL hj (oK_some h).1 hfin (fun z => by rw [ht]; rfl) (fun z => by rw [ht]; rfl) rfl rfl (fun i hi => by rw [mI_wI, if_neg hi]) (fun _ _ => rfl) (fun _ _ => rfl) (fun z i => ?_) (k (oK_some h).2)
  unfold updV oV
  rw [mI_wI, if_pos rfl, mL_wI, mR_wI]
  by_cases hi : i = j
  · subst hi; rw [if_pos rfl, ht]; simp [fvv, upd, cv]
  · rw [if_neg hi]; simp [upd, hi]
theorem E_putZ {C : String} {T : u_T} {N ci j o idx : Nat} {x : Int32} (h : oK u o ci N (oZ x X) = some r) (hd : decode Y.2.1 pc = .ok (.putfield idx, 3)) (hC : CF ci C T N) (hL : LK Y.1.cls idx T j) (hj : j < N) (hfin : PF Y idx T j) (ht : fT ci j = .boolean)
    (k : X = some r → Eg Y d kc ks res (pc + 3) l st (wI u o (upd (mI u o) j x))) : Eg Y d kc ks res pc l (.int x :: .ref o :: st) u := by
  obtain ⟨h0, h1⟩ := oK_some h
  obtain ⟨hz, h2⟩ := oZ_some h1
  refine E_put (u' := wI u o (upd (mI u o) j x)) hd hC hL hj h0 hfin (fun z => by rw [ht]; exact narrow_z hz) (fun z => by rw [ht]; exact fits_z hz) rfl rfl (fun i hi => by rw [mI_wI, if_neg hi]) (fun _ _ => rfl) (fun _ _ => rfl) (fun z i => ?_) (k h2)
  unfold updV oV
  rw [mI_wI, if_pos rfl, mL_wI, mR_wI]
  by_cases hi : i = j
  · subst hi; rw [if_pos rfl, ht]; simp [fvv, upd, cv]
  · rw [if_neg hi]; simp [upd, hi]
theorem E_putL {C : String} {T : u_T} {N ci j o idx : Nat} {x : Int64} (h : oK u o ci N X = some r) (hd : decode Y.2.1 pc = .ok (.putfield idx, 3)) (hC : CF ci C T N) (hL : LK Y.1.cls idx T j) (hj : j < N) (hfin : PF Y idx T j) (ht : fT ci j = .long)
    (k : X = some r → Eg Y d kc ks res (pc + 3) l st (wL u o (vp_updL (mL u o) j x))) : Eg Y d kc ks res pc l (.long x :: .ref o :: st) u := by
  refine E_put (u' := wL u o (vp_updL (mL u o) j x)) hd hC hL hj (oK_some h).1 hfin (fun z => by rw [ht]; rfl) (fun z => by rw [ht]; rfl) rfl rfl (fun _ _ => rfl) (fun i hi => by rw [mL_wL, if_neg hi]) (fun _ _ => rfl) (fun z i => ?_) (k (oK_some h).2)
  unfold updV oV
  rw [mL_wL, if_pos rfl, mI_wL, mR_wL]
  by_cases hi : i = j
  · subst hi; rw [if_pos rfl, ht]; simp [fvv, vp_updL, cv]
  · rw [if_neg hi]; simp [vp_updL, hi]
theorem E_putR {C : String} {T : u_T} {N ci j o idx a : Nat} (h : oK u o ci N X = some r) (hd : decode Y.2.1 pc = .ok (.putfield idx, 3)) (hC : CF ci C T N) (hL : LK Y.1.cls idx T j) (hj : j < N) (hfin : PF Y idx T j) (ht : (∃ E, fT ci j = .object E) ∨ ∃ E, fT ci j = .array E)
    (k : X = some r → Eg Y d kc ks res (pc + 3) l st (wR u o (va_up (mR u o) j (some a)))) : Eg Y d kc ks res pc l (.ref a :: .ref o :: st) u := by
  refine E_put (u' := wR u o (va_up (mR u o) j (some a))) hd hC hL hj (oK_some h).1 hfin (fun z => by rcases ht with ⟨E, ht⟩ | ⟨E, ht⟩ <;> rw [ht] <;> rfl) (fun z => by rcases ht with ⟨E, ht⟩ | ⟨E, ht⟩ <;> rw [ht] <;> rfl) rfl rfl (fun _ _ => rfl) (fun _ _ => rfl) (fun i hi => by rw [mR_wR, if_neg hi]) (fun z i => ?_) (k (oK_some h).2)
  unfold updV oV
  rw [mR_wR, if_pos rfl, mI_wR, mL_wR]
  by_cases hi : i = j
  · subst hi; rw [if_pos rfl]; rcases ht with ⟨E, ht⟩ | ⟨E, ht⟩ <;> rw [ht] <;> simp [fvv, va_up, cv, va_rf]
  · rw [if_neg hi]; simp [va_up, hi]
/-! arrays -/
theorem eV10 (z : Nat) (u : Mm) (i : Nat) : eV z u i 10 = fun j => .int (mI u i j) := by funext j; simp [eV]
theorem eV11 (z : Nat) (u : Mm) (i : Nat) : eV z u i 11 = fun j => .long (mL u i j) := by funext j; simp [eV]
theorem eV12 (z : Nat) (u : Mm) (i : Nat) : eV z u i 12 = fun j => .int (mI u i j) := by funext j; simp [eV]
theorem eV13 (z : Nat) (u : Mm) (i : Nat) : eV z u i 13 = fun j => va_rf ((mR u i j).map (fun a => z + a)) := by funext j; simp [eV]
theorem eV14 (z : Nat) (u : Mm) (i : Nat) : eV z u i 14 = fun j => va_rf ((mR u i j).map (fun a => z + a)) := by funext j; simp [eV]
theorem mK_eta {a k : Nat} (h : (mK u a).1 = k) : mK u a = (k, (mK u a).2) := by rw [← h]
theorem E_iald {a : Nat} {i : Int32} (h : oA u a 10 i X = some r) (hd : decode Y.2.1 pc = .ok (.iaload, 1)) (k : X = some r → Eg Y d kc ks res (pc + 1) l (.int (mI u a i.toNatClampNeg) :: st) u) : Eg Y d kc ks res pc l (.int i :: .ref a :: st) u := by
  intro g p lch e R s m args below meth c H locs cells slots ls A h1 h2 h3 h4 I hl
  obtain ⟨⟨g1, g2⟩, g3⟩ := oA_some h
  have hw := k g3 g p lch e R s m args below meth c H locs cells slots ls A h1 h2 h3 h4 I hl
  have hc := I.1.arr (mK_eta g1) (by omega) (by omega)
  exact W.iald (v := .int (mI u a i.toNatClampNeg)) A.1 A.2.1 hc ((A.2.2.2.2.2.2.2.2.1.2 0 _ rfl).1 _ _) (fun q => by cases q) (by show ¬ (i < 0 ∨ (arrV _ _ _).slots.size ≤ _); rw [arrV_size]; exact in_of g2) (by show (arrV _ _ _).slots[_]? = _; rw [arrV_read _ _ g2.2, eV10]) rfl rfl hd hw
theorem E_zald {a : Nat} {i : Int32} (h : oA u a 12 i X = some r) (hd : decode Y.2.1 pc = .ok (.baload, 1)) (k : X = some r → Eg Y d kc ks res (pc + 1) l (.int (mI u a i.toNatClampNeg) :: st) u) : Eg Y d kc ks res pc l (.int i :: .ref a :: st) u := by
  intro g p lch e R s m args below meth c H locs cells slots ls A h1 h2 h3 h4 I hl
  obtain ⟨⟨g1, g2⟩, g3⟩ := oA_some h
  have hw := k g3 g p lch e R s m args below meth c H locs cells slots ls A h1 h2 h3 h4 I hl
  have hc := I.1.arr (mK_eta g1) (by omega) (by omega)
  exact W.zald (v := .int (mI u a i.toNatClampNeg)) A.1 A.2.1 hc ((A.2.2.2.2.2.2.2.2.1.2 2 _ rfl).1 _ _) (fun q => by cases q) (by show ¬ (i < 0 ∨ (arrV _ _ _).slots.size ≤ _); rw [arrV_size]; exact in_of g2) (by show (arrV _ _ _).slots[_]? = _; rw [arrV_read _ _ g2.2, eV12]) rfl rfl hd hw
theorem E_lald {a : Nat} {i : Int32} (h : oA u a 11 i X = some r) (hd : decode Y.2.1 pc = .ok (.laload, 1)) (k : X = some r → Eg Y d kc ks res (pc + 1) l (.long (mL u a i.toNatClampNeg) :: st) u) : Eg Y d kc ks res pc l (.int i :: .ref a :: st) u := by
  intro g p lch e R s m args below meth c H locs cells slots ls A h1 h2 h3 h4 I hl
  obtain ⟨⟨g1, g2⟩, g3⟩ := oA_some h
  have hw := k g3 g p lch e R s m args below meth c H locs cells slots ls A h1 h2 h3 h4 I hl
  have hc := I.1.arr (mK_eta g1) (by omega) (by omega)
  exact W.lald (v := .long (mL u a i.toNatClampNeg)) A.1 A.2.1 hc ((A.2.2.2.2.2.2.2.2.1.2 1 _ rfl).1 _ _) (fun q => by cases q) (by show ¬ (i < 0 ∨ (arrV _ _ _).slots.size ≤ _); rw [arrV_size]; exact in_of g2) (by show (arrV _ _ _).slots[_]? = _; rw [arrV_read _ _ g2.2, eV11]) rfl rfl hd hw
theorem E_aald13 {a : Nat} {i : Int32} (h : oA u a 13 i X = some r) (hd : decode Y.2.1 pc = .ok (.aaload, 1)) (k : X = some r → Eg Y d kc ks res (pc + 1) l (va_rf (mR u a i.toNatClampNeg) :: st) u) : Eg Y d kc ks res pc l (.int i :: .ref a :: st) u := by
  intro g p lch e R s m args below meth c H locs cells slots ls A h1 h2 h3 h4 I hl
  obtain ⟨⟨g1, g2⟩, g3⟩ := oA_some h
  have hw := k g3 g p lch e R s m args below meth c H locs cells slots ls A h1 h2 h3 h4 I hl
  have hc := I.1.arr (mK_eta g1) (by omega) (by omega)
  rw [List.map_cons, cv_rf] at hw
  exact W.aald (v := va_rf ((mR u a i.toNatClampNeg).map (fun b => g.1 + b))) (ty := .object "HyphenWar$Book") A.1 A.2.1 hc ((A.2.2.2.2.2.2.2.2.1.2 3 _ rfl).1 _ _) rfl (fun q => by cases q) (by show ¬ (i < 0 ∨ (arrV _ _ _).slots.size ≤ _); rw [arrV_size]; exact in_of g2) (by show (arrV _ _ _).slots[_]? = _; rw [arrV_read _ _ g2.2, eV13]) rfl rfl hd hw
theorem E_aald14 {a : Nat} {i : Int32} (h : oA u a 14 i X = some r) (hd : decode Y.2.1 pc = .ok (.aaload, 1)) (k : X = some r → Eg Y d kc ks res (pc + 1) l (va_rf (mR u a i.toNatClampNeg) :: st) u) : Eg Y d kc ks res pc l (.int i :: .ref a :: st) u := by
  intro g p lch e R s m args below meth c H locs cells slots ls A h1 h2 h3 h4 I hl
  obtain ⟨⟨g1, g2⟩, g3⟩ := oA_some h
  have hw := k g3 g p lch e R s m args below meth c H locs cells slots ls A h1 h2 h3 h4 I hl
  have hc := I.1.arr (mK_eta g1) (by omega) (by omega)
  rw [List.map_cons, cv_rf] at hw
  exact W.aald (v := va_rf ((mR u a i.toNatClampNeg).map (fun b => g.1 + b))) (ty := .object "HyphenWar$Text") A.1 A.2.1 hc ((A.2.2.2.2.2.2.2.2.1.2 4 _ rfl).1 _ _) rfl (fun q => by cases q) (by show ¬ (i < 0 ∨ (arrV _ _ _).slots.size ≤ _); rw [arrV_size]; exact in_of g2) (by show (arrV _ _ _).slots[_]? = _; rw [arrV_read _ _ g2.2, eV14]) rfl rfl hd hw
def oL (u : Mm) (a : Nat) (X : Option ρ) : Option ρ := if (mK u a).1 = 10 ∨ (mK u a).1 = 11 then X else none
theorem E_alen {a : Nat} (h : oL u a X = some r) (hd : decode Y.2.1 pc = .ok (.arraylength, 1)) (k : X = some r → Eg Y d kc ks res (pc + 1) l (.int (Int32.ofNat (mK u a).2) :: st) u) : Eg Y d kc ks res pc l (.ref a :: st) u := by
  intro g p lch e R s m args below meth c H locs cells slots ls A h1 h2 h3 h4 I hl
  obtain ⟨g1, g3⟩ := ite_some h
  have hw := k g3 g p lch e R s m args below meth c H locs cells slots ls A h1 h2 h3 h4 I hl
  rcases g1 with g1 | g1
  · have hc := I.1.arr (mK_eta g1) (by omega) (by omega)
    exact W.alen (n := Int32.ofNat (mK u a).2) A.1 A.2.1 hc ((A.2.2.2.2.2.2.2.2.1.2 0 _ rfl).1 _ _) (by rw [arrV_size] <;> rfl) rfl rfl hd hw
  · have hc := I.1.arr (mK_eta g1) (by omega) (by omega)
    exact W.alen (n := Int32.ofNat (mK u a).2) A.1 A.2.1 hc ((A.2.2.2.2.2.2.2.2.1.2 1 _ rfl).1 _ _) (by rw [arrV_size] <;> rfl) rfl rfl hd hw
/-- a place that is an array is written -/
theorem hInv.arr {g : hG} {s : State} {u' : Mm} {H H1 : Heap} {locs : List Loc} {a k N j : Nat} (I : hInv g s u H locs) (hz : H1.size = H.size) (oq : ∀ q, q ≠ g.1 + a → H1[q]? = H[q]?) (hk : mK u a = (k, N)) (h10 : ¬ k < 10) (hN : mN u' = mN u) (hK : mK u' = mK u) (hI : ∀ i, i ≠ a → mI u' i = mI u i) (hL : ∀ i, i ≠ a → mL u' i = mL u i) (hR : ∀ i, i ≠ a → mR u' i = mR u i) (hc : H1[g.1 + a]? = some (arrV (g.2.2.1 k) N (eV g.1 u' a k))) : hInv g s u' H1 (locs ++ [⟨g.1 + a, j⟩]) := by
  refine ⟨I.1.put hz oq hN ?_ (fun i _ => by rw [hK]) hI hL hR, fun q hq => (oq q (by omega)).trans (I.2.1 q hq), fun x hx => ?_⟩
  · unfold hAt
    rw [hK, hk, if_neg h10]
    exact hc
  · rcases List.mem_append.mp hx with h | h
    · exact I.2.2 x h
    · rw [List.mem_singleton.mp h]; exact Nat.le_add_right _ _
theorem E_iast {a : Nat} {i x : Int32} (h : oA u a 10 i X = some r) (hd : decode Y.2.1 pc = .ok (.iastore, 1)) (k : X = some r → Eg Y d kc ks res (pc + 1) l st (wI u a (upd (mI u a) i.toNatClampNeg x))) : Eg Y d kc ks res pc l (.int x :: .int i :: .ref a :: st) u := by
  intro g p lch e R s m args below meth c H locs cells slots ls A h1 h2 h3 h4 I hl
  obtain ⟨⟨g1, g2⟩, g3⟩ := oA_some h
  have hc := I.1.arr (mK_eta g1) (by omega) (by omega)
  refine W.iast A.1 A.2.1 hc ((A.2.2.2.2.2.2.2.2.1.2 0 _ rfl).1 _ _) (fun q => by cases q) (by show ¬ (i < 0 ∨ (arrV _ _ _).slots.size ≤ _); rw [arrV_size]; exact in_of g2) rfl rfl hd fun H1 e1 z oq => ?_
  refine k g3 g p lch e R s m args below meth c H1 _ cells slots ls A h1 h2 h3 h4 (I.arr z oq (mK_eta g1) (by omega) rfl rfl (fun i hi => by rw [mI_wI, if_neg hi]) (fun _ _ => rfl) (fun _ _ => rfl) ?_) hl
  rw [e1, eV10, eV10, arrV_store, mI_wI, if_pos rfl]
  congr 2
  funext q
  by_cases hq : q = i.toNatClampNeg <;> simp [updV, upd, hq]
theorem E_zast {a : Nat} {i x : Int32} (h : oA u a 12 i (oZ x X) = some r) (hd : decode Y.2.1 pc = .ok (.bastore, 1)) (k : X = some r → Eg Y d kc ks res (pc + 1) l st (wI u a (upd (mI u a) i.toNatClampNeg x))) : Eg Y d kc ks res pc l (.int x :: .int i :: .ref a :: st) u := by
  intro g p lch e R s m args below meth c H locs cells slots ls A h1 h2 h3 h4 I hl
  obtain ⟨⟨g1, g2⟩, g3⟩ := oA_some h
  obtain ⟨hz, g4⟩ := oZ_some g3
  have hc := I.1.arr (mK_eta g1) (by omega) (by omega)
  refine W.zast A.1 A.2.1 hc ((A.2.2.2.2.2.2.2.2.1.2 2 _ rfl).1 _ _) (fun q => by cases q) (by show ¬ (i < 0 ∨ (arrV _ _ _).slots.size ≤ _); rw [arrV_size]; exact in_of g2) rfl rfl hd fun H1 e1 z oq => ?_
  rw [narrow_z hz] at e1
  refine k g4 g p lch e R s m args below meth c H1 _ cells slots ls A h1 h2 h3 h4 (I.arr z oq (mK_eta g1) (by omega) rfl rfl (fun i hi => by rw [mI_wI, if_neg hi]) (fun _ _ => rfl) (fun _ _ => rfl) ?_) hl
  rw [e1, eV12, eV12, arrV_store, mI_wI, if_pos rfl]
  congr 2
  funext q
  by_cases hq : q = i.toNatClampNeg <;> simp [updV, upd, hq]
theorem E_last {a : Nat} {i : Int32} {x : Int64} (h : oA u a 11 i X = some r) (hd : decode Y.2.1 pc = .ok (.lastore, 1)) (k : X = some r → Eg Y d kc ks res (pc + 1) l st (wL u a (vp_updL (mL u a) i.toNatClampNeg x))) : Eg Y d kc ks res pc l (.long x :: .int i :: .ref a :: st) u := by
  intro g p lch e R s m args below meth c H locs cells slots ls A h1 h2 h3 h4 I hl
  obtain ⟨⟨g1, g2⟩, g3⟩ := oA_some h
  have hc := I.1.arr (mK_eta g1) (by omega) (by omega)
  refine W.last A.1 A.2.1 hc ((A.2.2.2.2.2.2.2.2.1.2 1 _ rfl).1 _ _) (fun q => by cases q) (by show ¬ (i < 0 ∨ (arrV _ _ _).slots.size ≤ _); rw [arrV_size]; exact in_of g2) rfl rfl hd fun H1 e1 z oq => ?_
  refine k g3 g p lch e R s m args below meth c H1 _ cells slots ls A h1 h2 h3 h4 (I.arr z oq (mK_eta g1) (by omega) rfl rfl (fun _ _ => rfl) (fun i hi => by rw [mL_wL, if_neg hi]) (fun _ _ => rfl) ?_) hl
  rw [e1, eV11, eV11, arrV_store, mL_wL, if_pos rfl]
  congr 2
  funext q
  by_cases hq : q = i.toNatClampNeg <;> simp [updV, vp_updL, hq]
end EHEAP
