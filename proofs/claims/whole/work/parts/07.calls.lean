/-! ===== rows: new cells, copies, calls ===== -/
section ENEW
variable {Y : MI} {d kc ks pc : Nat} {res : Option Value × Mm} {l l' : List (Nat × Value)} {st : List Value} {u : Mm} {ρ : Type} {r : ρ} {X B : Option ρ}
theorem nat_of32 {n : Int32} (h : 0 ≤ n) : ¬ n < 0 := Int32.not_lt.mpr h
theorem hInv.new {g : hG} {s : State} {H H1 : Heap} {locs : List Loc} {k N : Nat} (I : hInv g s u H locs) (hz : H1.size = g.1 + mN u + 1) (oq : ∀ q, q < g.1 + mN u → H1[q]? = H[q]?) (ha : hAt g (wN u k N) (mN u) H1) : hInv g s (wN u k N) H1 locs :=
  ⟨I.1.new hz oq ha, fun q hq => (oq q (by omega)).trans (I.2.1 q hq), I.2.2⟩
theorem E_newK {kd t0 cap : Nat} {n : Int32} {aty : ArrayType} {ty : FieldType} (ht0 : ∀ g : hG, (hwTys g)[t0]? = some (g.2.2.1 kd, ty)) (hty : newarray.typeOf aty = ty) (hra : ∀ (U : State) (cA : ClassId), va_RA U cA ty → U.vm.findClass ("[" ++ ty.toString) = some cA) (h10 : ¬ kd < 10) (hdv : ∀ z N, eV z (wN u kd N) (mN u) kd = fun _ => defaultValue ty) (hw8 : cap * componentBytes ty ≤ 536870912) (haw : Cond.arrayClass ty ∈ UW)
    (h : oN cap n X = some r) (hd : decode Y.2.1 pc = .ok (.newarray aty, 2)) {kc' ks' : Nat} (hkc : kc = 1 + kc') (hks : ks = cap + ks')
    (k : X = some r → Eg Y d kc' ks' res (pc + 2) l (.ref (mN u) :: st) (wN u kd n.toNatClampNeg)) : Eg Y d kc ks res pc l (.int n :: st) u := by
  intro g p lch e R s m args below meth c H locs cells slots ls A h1 h2 h3 h4 I hl
  obtain ⟨⟨g1, g2⟩, g3⟩ := oN_some h
  subst hty
  have hK := A.2.2.2.2.2.2.2.2.1
  have hRA := hra s _ (hK.2 t0 _ (ht0 g)).2
  refine va_newaK (h := g.1 + mN u) A.1 A.2.1 (A.2.2.2.2.2.2.2.1 _ haw) rfl hd rfl (nat_of32 g1) rfl (Nat.le_trans (Nat.mul_le_mul_right _ g2) hw8) (by omega) (by omega) I.1.1 fun H1 cA e1 z1 o1 hAr hNm => ?_
  have hcA : cA = g.2.2.1 kd := Option.some.inj (hNm.symm.trans hRA)
  subst hcA
  refine W.widen (k := cells + 1) (n := slots + cap) (Nat.le_refl _) (by omega) ?_
  have hw := k g3 g p lch e R s m args below meth c H1 locs (cells + 1) (slots + cap) ls A h1 h2 (by omega) (by omega) (I.new z1 o1 ?_) hl
  · rw [show cells + 1 + kc' = cells + kc by omega, show slots + cap + ks' = slots + ks by omega] at hw
    exact hw
  · unfold hAt
    rw [mK_wN, if_pos rfl]
    simp only []
    rw [if_neg h10, hdv]
    exact e1
theorem E_newI {cap : Nat} {n : Int32} (h : oN cap n X = some r) (hd : decode Y.2.1 pc = .ok (.newarray .int, 2)) (haw : Cond.arrayClass .int ∈ UW) (hw8 : cap * 4 ≤ 536870912) {kc' ks' : Nat} (hkc : kc = 1 + kc') (hks : ks = cap + ks')
    (k : X = some r → Eg Y d kc' ks' res (pc + 2) l (.ref (mN u) :: st) (wN u 10 n.toNatClampNeg)) : Eg Y d kc ks res pc l (.int n :: st) u :=
  E_newK (kd := 10) (t0 := 0) (ty := .int) (fun _ => rfl) rfl (fun _ _ h => h) (by omega) (fun z N => by rw [eV10, mI_wN, if_pos rfl]; rfl) hw8 haw h hd hkc hks k
theorem E_newL {cap : Nat} {n : Int32} (h : oN cap n X = some r) (hd : decode Y.2.1 pc = .ok (.newarray .long, 2)) (haw : Cond.arrayClass .long ∈ UW) (hw8 : cap * 8 ≤ 536870912) {kc' ks' : Nat} (hkc : kc = 1 + kc') (hks : ks = cap + ks')
    (k : X = some r → Eg Y d kc' ks' res (pc + 2) l (.ref (mN u) :: st) (wN u 11 n.toNatClampNeg)) : Eg Y d kc ks res pc l (.int n :: st) u :=
  E_newK (kd := 11) (t0 := 1) (ty := .long) (fun _ => rfl) rfl (fun _ _ h => h) (by omega) (fun z N => by rw [eV11, mL_wN, if_pos rfl]; rfl) hw8 haw h hd hkc hks k
theorem E_newZ {cap : Nat} {n : Int32} (h : oN cap n X = some r) (hd : decode Y.2.1 pc = .ok (.newarray .boolean, 2)) (haw : Cond.arrayClass .boolean ∈ UW) (hw8 : cap * 1 ≤ 536870912) {kc' ks' : Nat} (hkc : kc = 1 + kc') (hks : ks = cap + ks')
    (k : X = some r → Eg Y d kc' ks' res (pc + 2) l (.ref (mN u) :: st) (wN u 12 n.toNatClampNeg)) : Eg Y d kc ks res pc l (.int n :: st) u :=
  E_newK (kd := 12) (t0 := 2) (ty := .boolean) (fun _ => rfl) rfl (fun _ _ h => h) (by omega) (fun z N => by rw [eV12, mI_wN, if_pos rfl]; rfl) hw8 haw h hd hkc hks k
theorem E_newQ {kd t0 cap idx : Nat} {n : Int32} {C : String} (ht0 : ∀ g : hG, (hwTys g)[t0]? = some (g.2.2.1 kd, .object C)) (hk13 : kd = 13 ∨ kd = 14) (hw8 : cap * 4 ≤ 536870912) (hcl : Cond.classLink Y.1.cls idx C ∈ UW) (hao : Cond.arrayOver (.object C) ∈ UW)
    (h : oN cap n X = some r) (hd : decode Y.2.1 pc = .ok (.anewarray idx, 3)) {kc' ks' : Nat} (hkc : kc = 1 + kc') (hks : ks = cap + ks')
    (k : X = some r → Eg Y d kc' ks' res (pc + 3) l (.ref (mN u) :: st) (wN u kd n.toNatClampNeg)) : Eg Y d kc ks res pc l (.int n :: st) u := by
  intro g p lch e R s m args below meth c H locs cells slots ls A h1 h2 h3 h4 I hl
  obtain ⟨⟨g1, g2⟩, g3⟩ := oN_some h
  have hK := A.2.2.2.2.2.2.2.2.1
  obtain ⟨kA', comp', r1, r2, r3, r4⟩ := (hK.2 t0 _ (ht0 g)).2
  refine W.anew A.1 A.2.1 A.2.2.2.2.2.2.1 (A.2.2.2.2.2.2.2.1 _ hcl) (A.2.2.2.2.2.2.2.1 _ hao) rfl hd rfl (nat_of32 g1) (Nat.le_trans (Nat.mul_le_mul_right _ g2) hw8) (by omega) (by omega) fun cA kA comp f1 f2 f3 f4 => ?_
  have hcA : cA = g.2.2.1 kd := Option.some.inj (f1.symm.trans r4)
  subst hcA
  rw [I.1.1]
  refine W.widen (k := cells + 1) (n := slots + cap) (Nat.le_refl _) (by omega) ?_
  have hw := k g3 g p lch e R s m args below meth c (H.push { cls := g.2.2.1 kd, slots := Array.replicate n.toNatClampNeg .null, vm := .none }) locs (cells + 1) (slots + cap) ls A h1 h2 (by omega) (by omega) (I.new (by rw [Array.size_push, I.1.1]) (fun q hq => by rw [Array.getElem?_push, if_neg (by rw [I.1.1]; omega)]) ?_) hl
  · rw [show cells + 1 + kc' = cells + kc by omega, show slots + cap + ks' = slots + ks by omega] at hw
    exact hw
  · unfold hAt
    rw [mK_wN, if_pos rfl]
    simp only []
    rw [if_neg (by rcases hk13 with rfl | rfl <;> omega), ← I.1.1, Array.getElem?_push_size, arrV_new]
    rcases hk13 with rfl | rfl
    · rw [eV13, mR_wN, if_pos rfl]; rfl
    · rw [eV14, mR_wN, if_pos rfl]; rfl
theorem E_new {C : String} {T : u_T} {N ci idx : Nat} (hd : decode Y.2.1 pc = .ok (.new idx, 3)) (hC : CF ci C T N) (hcl : Cond.classLink Y.1.cls idx C ∈ UW) (hin : Cond.instantiable C N ∈ UW) (hini : Cond.initialized C ∈ UW) (hnf : ∀ j, j < N → fvv (fT ci j) 0 0 none = defaultValue (fT ci j)) {kc' ks' : Nat} (hkc : kc = 1 + kc') (hks : ks = N + ks')
    (k : Eg Y d kc' ks' res (pc + 3) l (.ref (mN u) :: st) (wN u ci N)) : Eg Y d kc ks res pc l st u := by
  intro g p lch e R s m args below meth c H locs cells slots ls A h1 h2 h3 h4 I hl
  have hts := A.2.2.2.2.2.2.2.1
  have hKn := A.2.2.2.2.2.2.2.2.1.1 ci _ hC.1
  refine W.newcK (h := g.1 + mN u) A.1 A.2.1 A.2.2.2.2.2.2.1 (hts _ hcl) (hts _ hin) (hts _ hini) rfl hd (by omega) (by omega) hKn.2.1 I.1.1 fun H1 kC hkC e1 z1 o1 => ?_
  have hw := k g p lch e R s m args below meth c H1 locs (cells + 1) (slots + N) ls A h1 h2 (by omega) (by omega) (I.new z1 o1 ?_) hl
  · rw [show cells + 1 + kc' = cells + kc by omega, show slots + N + ks' = slots + ks by omega] at hw
    exact hw
  · unfold hAt
    rw [mK_wN, if_pos rfl]
    simp only []
    rw [if_pos hC.2.1]
    refine (u_born (fT ci) hts hC.2.2.1 hKn hkC e1 hC.2.2.2.1).to (fun j hj => ?_)
    show defaultValue (fT ci j) = fvv (fT ci j) (mI (wN u ci N) (mN u) j) (mL (wN u ci N) (mN u) j) ((mR (wN u ci N) (mN u) j).map _)
    rw [mI_wN, mL_wN, mR_wN, if_pos rfl, if_pos rfl, if_pos rfl]
    exact (hnf j hj).symm
theorem E_objInit {idx o : Nat} (hd : decode Y.2.1 pc = .ok (.invokespecial idx, 3)) (hl1 : Cond.methodLink Y.1.cls idx objectInit ∈ UW) (hl2 : Cond.instanceMethod objectInit ∈ UW) (hl3 : Cond.code objectInit ⟨#[0xb1]⟩ 1 none ∈ UW) (hd1 : 1 ≤ d) (hst : (st.map fun v => v.category).sum ≤ 8) (k : Eg Y d kc ks res (pc + 3) l st u) : Eg Y d kc ks res pc l (.ref o :: st) u := by
  intro g p lch e R s m args below meth c H locs cells slots ls A h1 h2 h3 h4 I hl
  have hts := A.2.2.2.2.2.2.2.1
  have hw := k g p lch e R s m args below meth c H locs cells slots ls A h1 h2 h3 h4 I hl
  refine W.objInit A.1 A.2.1 A.2.2.2.2.2.2.1 (hts _ hl1) (hts _ hl2) (hts _ hl3) rfl (by rw [A.2.2.1]; exact hl.1) rfl hd (by omega) ?_ hw
  have h8 := lv_room (m := m) (pc := pc) (ls := ls) (rest := (Value.ref o :: st).map (cv g.1)) (st := st.map (cv g.1)) (by rw [cv_sum]; exact hst)
  omega
/-- System.arraycopy of ints -/
def oC (u : Mm) (a b : Nat) (sp dp n : Int32) (X : Option ρ) : Option ρ := if (mK u a).1 = 10 ∧ (mK u b).1 = 10 ∧ 0 ≤ sp ∧ 0 ≤ dp ∧ 0 ≤ n ∧ sp.toNatClampNeg + n.toNatClampNeg ≤ (mK u a).2 ∧ dp.toNatClampNeg + n.toNatClampNeg ≤ (mK u b).2 then X else none
theorem E_copy {a b idx : Nat} {sp dp n : Int32} (h : oC u a b sp dp n X = some r) (hd : decode Y.2.1 pc = .ok (.invokestatic idx, 3)) (hl1 : Cond.methodLink Y.1.cls idx arraycopyName ∈ UW) (hl2 : Cond.native arraycopyName ∈ UW) (hl3 : Cond.static arraycopyName ∈ UW) (hl4 : Cond.initialized "java/lang/System" ∈ UW) (hd1 : 1 ≤ d) (hst : (st.map fun v => v.category).sum ≤ 8)
    (k : X = some r → Eg Y d kc ks res (pc + 3) l st (wI u b (va_cpy (mI u a) (mI u b) sp.toNatClampNeg dp.toNatClampNeg n.toNatClampNeg))) : Eg Y d kc ks res pc l (.int n :: .int dp :: .ref b :: .int sp :: .ref a :: st) u := by
  intro g p lch e R s m args below meth c H locs cells slots ls A h1 h2 h3 h4 I hl
  obtain ⟨⟨ga, gb, g1, g2, g3, g4, g5⟩, gX⟩ := ite_some h
  have hts := A.2.2.2.2.2.2.2.1
  have hK : va_K g.2.1 hwCl (hwTys g) s := A.2.2.2.2.2.2.2.2.1
  have hca := I.1.arr (mK_eta ga) (by omega) (by omega)
  have hcb := I.1.arr (mK_eta gb) (by omega) (by omega)
  rw [eV10] at hca hcb
  have hsum : ((st.map (cv g.1)).map fun v => v.category).sum ≤ 8 := by rw [cv_sum]; exact hst
  have hnw : nativeFrameWords "java/lang/System" "arraycopy" 5 + 11 + 8 ≤ 64 := by decide +kernel
  have nn : ∀ z : Int32, 0 ≤ z → z.toInt = (z.toNatClampNeg : Int) := by
    intro z hz
    have hz0 : (0 : Int) ≤ z.toInt := by simpa using Int32.le_iff_toInt_le.mp hz
    show z.toInt = ((z.toInt.toNat : Nat) : Int)
    omega
  intro T hT Z
  obtain ⟨-, k0, hk0, cm0, hkk0⟩ := (hK.2 0 _ rfl).1 (mK u a).2 (fun j => .int (mI u a j))
  obtain ⟨-, k1, hk1, cm1, hkk1⟩ := (hK.2 0 _ rfl).1 (mK u b).2 (fun j => .int (mI u b j))
  obtain ⟨vm', Z', step⟩ := Z.arraycopy A.1 A.2.2.2.2.2.2.1 (hts _ hl1) (hts _ hl2) (hts _ hl3) (hts _ hl4) (src := g.1 + a) (dst := g.1 + b) (cs := arrV (g.2.2.1 10) (mK u a).2 (fun j => .int (mI u a j))) (cd := arrV (g.2.2.1 10) (mK u b).2 (fun j => .int (mI u b j))) (srcPos := sp) (destPos := dp) (n := n) (by rw [hT]; exact hca) (by rw [hT]; exact hcb)
    (fun _ h => by cases h) (fun _ h => by cases h) (fun h => by cases h) (fun h => by cases h) hk0 hk1 hkk0 hkk1 (by simp [refKind]) (nat_of32 g1) (nat_of32 g2) (nat_of32 g3)
    (by rw [nn sp g1, nn n g3, arrV_size]; omega)
    (by rw [nn dp g2, nn n g3, arrV_size]; omega)
    (fun vm₁ _ i hi => by
      have e : (arrV (g.2.2.1 10) (mK u a).2 (fun j => .int (mI u a j))).slots.getD (sp.toNatClampNeg + i) .null = .int (mI u a (sp.toNatClampNeg + i)) := by
        rw [Array.getD_eq_getD_getElem?, arrV_read _ _ (by omega)]
        rfl
      exact ⟨by rw [e]; rfl, by rw [e]; exact trivial⟩)
    (g := F0 m pc ls (.int n :: .int dp :: .ref (g.1 + b) :: .int sp :: .ref (g.1 + a) :: st.map (cv g.1))) rfl (by rw [A.2.2.1]; exact hl.1) (rest := st.map (cv g.1)) rfl (by rw [A.2.1]; exact hd) (by omega) (by show 2 * 0 + _ + _ ≤ _; omega)
  have e1 : copied (arrV (g.2.2.1 10) (mK u a).2 (fun j => .int (mI u a j))) (arrV (g.2.2.1 10) (mK u b).2 (fun j => .int (mI u b j))) sp dp n = arrV (g.2.2.1 10) (mK u b).2 (fun j => .int (va_cpy (mI u a) (mI u b) sp.toNatClampNeg dp.toNatClampNeg n.toNatClampNeg j)) := va_copied (fun z => .int z) _ _ (mI u a) (mI u b) g4
  rw [e1] at Z' step
  have hlb : g.1 + b < H.size := (Array.getElem?_eq_some_iff.mp hcb).1
  generalize hCe : arrV (g.2.2.1 10) (mK u b).2 (fun j => Value.int (va_cpy (mI u a) (mI u b) sp.toNatClampNeg dp.toNatClampNeg n.toNatClampNeg j)) = cN at Z' step
  have hheap : ((T.setVm vm').setCell (g.1 + b) cN).heap = H.setIfInBounds (g.1 + b) cN := by rw [← hT]; rfl
  have oq : ∀ q : Nat, q ≠ g.1 + b → (H.setIfInBounds (g.1 + b) cN)[q]? = H[q]? := fun q hq => by simp [Array.getElem?_setIfInBounds, Ne.symm hq]
  have hself : (H.setIfInBounds (g.1 + b) cN)[g.1 + b]? = some cN := by simp [Array.getElem?_setIfInBounds, hlb]
  have hI1 : ∀ locs1 : List Loc, (∀ x ∈ locs1, g.1 ≤ x.base) → hInv g s (wI u b (va_cpy (mI u a) (mI u b) sp.toNatClampNeg dp.toNatClampNeg n.toNatClampNeg)) (H.setIfInBounds (g.1 + b) cN) locs1 := by
    intro locs1 hl1
    refine ⟨I.1.put (by simp) oq rfl ?_ (fun _ _ => rfl) (fun i hi => by rw [mI_wI, if_neg hi]) (fun _ _ => rfl) (fun _ _ => rfl), fun q hq => (oq q (by omega)).trans (I.2.1 q hq), hl1⟩
    unfold hAt
    rw [mK_wI, mK_eta gb, if_neg (by omega), hself, ← hCe, eV10, mI_wI, if_pos rfl]
  obtain ⟨t, a1, b1⟩ := k gX g p lch e R s m args below meth c (H.setIfInBounds (g.1 + b) cN) _ cells slots ls A h1 h2 h3 h4 (hI1 _ (fun x hx => by
    rcases List.mem_append.mp hx with h | h
    · exact I.2.2 x h
    · obtain ⟨z, -, hz⟩ := List.mem_map.mp h
      rw [← hz]
      exact Nat.le_add_right _ _)) hl _ hheap Z'
  exact ⟨t, step t a1, b1⟩
end ENEW
/-! ===== calls ===== -/
def hMeth (Y' : MI) (n : Nat) : Prop := Cond.code Y'.1 Y'.2.1 Y'.2.2.1 Y'.2.2.2 ∈ UW ∧ Cond.initialized Y'.1.cls ∈ UW ∧ (Y'.1.cls ≠ "java/lang/invoke/MethodHandle" ∧ Y'.1.cls ≠ "java/lang/invoke/VarHandle") ∧ (parseMethodDescriptor Y'.1.desc).map (fun d => d.parameters.length) = some n ∧ Y'.2.2.1 + 19 ≤ 64
def hVirt (Y' : MI) (ci : Nat) : Prop := Cond.instanceMethod Y'.1 ∈ UW ∧ Cond.selects Y'.1.cls Y'.1 Y'.1 ∈ UW ∧ (∃ T N, hwCl[ci]? = some (Y'.1.cls, T, N)) ∧ ci < 10
def hLnk (own : String) (idx : Nat) (y : MethodName) : Prop := Cond.methodLink own idx y ∈ UW ∨ ∃ host, Cond.methodLinkNest own idx y host ∈ UW
theorem hPc_blind (g : hG) (u : Mm) (as : List Value) : FrameBlind (hPc g u as) := fun a U f mk q => ⟨q.1, q.2.1, KK.calling q.2.2⟩
section ECALL
variable {Y : MI} {d kc ks pc : Nat} {res : Option Value × Mm} {l l' : List (Nat × Value)} {st : List Value} {u : Mm} {ρ : Type} {r : ρ} {X B : Option ρ}
variable {Y' : MI} {d' mc ms kc' ks' : Nat} {as : List Value} {v : Option Value} {u' : Mm} {st' : List Value}
theorem Eg.run (hrun : ∀ (g : hG) (p : Program) (lch : Launch) (e : Env) (R : Room) (s : State) (m : MethodId) (args : Array Value) (below : List Frame) (meth : Method) (c : Code) (H : Heap) (locs : List Loc) (cells slots : Nat) (ls : Array Slot), hAmb Y p s m args meth c g → d ≤ R.frames → 64 * d ≤ R.locals → cells + mc ≤ R.cells → slots + ms ≤ R.slots → hInv g s u H locs → lv_has ls Y.2.2.1 (l.map (cvp g.1)) → ∃ a, va_Run p lch e R s m args below meth c H locs cells slots mc ms (F0 m pc ls (st.map (cv g.1))) (st'.map (cv g.1)) (hQc g (v, u') a) (fun q => g.1 ≤ q))
    (hkc : kc = mc + kc') (hks : ks = ms + ks') (k : Eg Y d kc' ks' res (pc + 3) l (v.toList ++ st') u') : Eg Y d kc ks res pc l st u := by
  intro g p lch e R s m args below meth c H locs cells slots ls A h1 h2 h3 h4 I hl
  obtain ⟨a, hr⟩ := hrun g p lch e R s m args below meth c H locs cells slots ls A h1 h2 (by omega) (by omega) I hl
  intro T hT Z
  obtain ⟨v1, st₀, t, T', L, h0, Z', hL, e1, e2, ⟨hv, hR, hq⟩, stp⟩ := hr T hT Z
  have hv : v1 = v.map (cv g.1) := Outcome.returned.inj hv
  subst hv
  have hw := k g p lch e R s m args below meth c T'.heap (locs ++ L) (cells + mc) (slots + ms) ls A h1 h2 (by omega) (by omega) ⟨by rw [e1]; exact hR, fun q hq1 => by rw [e1, hq q hq1, h0]; exact I.2.1 q hq1, fun x hx => by
    rcases List.mem_append.mp hx with h | h
    · exact I.2.2 x h
    · exact hL x h⟩ hl
  rw [show cells + mc + kc' = cells + kc by omega, show slots + ms + ks' = slots + ks by omega, List.map_append, show (v.toList.map (cv g.1)) = (v.map (cv g.1)).toList by cases v <;> rfl] at hw
  obtain ⟨t2, a1, b1⟩ := hw T' rfl Z'
  exact ⟨t2, stp t2 a1, b1⟩
theorem hRm {R : Room} (h1 : d ≤ R.frames) (h2 : 64 * d ≤ R.locals) (hd : d' + 1 ≤ d) {n : Nat} (hn : n + 19 ≤ 64) : d' + 1 ≤ R.frames ∧ 8 + (n + 11) + 64 * d' ≤ R.locals := ⟨by omega, by omega⟩
theorem hSig {n : Nat} (h : (parseMethodDescriptor Y'.1.desc).map (fun d => d.parameters.length) = some n) : ∀ sig, parseMethodDescriptor Y'.1.desc = some sig → n = sig.parameters.length := fun sig hs => by
  rw [hs] at h
  exact (Option.some.inj h).symm
theorem hWs_warm {args : Array Value} {s : State} (hts : ∀ w ∈ UW, w.before args s = true) (hc : Cond.code Y'.1 Y'.2.1 Y'.2.2.1 Y'.2.2.2 ∈ UW) : ∀ w ∈ hWs Y', ∀ (a' : Array Value) (U : State), s.WarmedH U.vm → w.before a' U = true := fun w hw => by
  rcases List.mem_cons.mp hw with rfl | hw
  · exact UW_warm hts _ hc
  · exact UW_warm hts _ hw
theorem hPre {g : hG} {s : State} {H : Heap} {locs : List Loc} {p : Program} {m : MethodId} {args : Array Value} {meth : Method} {c : Code} (A : hAmb Y p s m args meth c g) (I : hInv g s u H locs) (as : List Value) : ∀ U : State, U.heap = H → s.WarmedH U.vm → hPc g u as (as.map (cv g.1)).toArray U := fun U hU hW => ⟨rfl, by rw [hU]; exact I.1, KK.warm hW (fun q hq => by rw [hU]; exact I.2.1 q hq) A.2.2.2.2.2.2.2.2⟩
/-- invokestatic -/
theorem Eg.callS {n idx : Nat} (hM : Ev d' Y' mc ms as u (v, u')) (hd : decode Y.2.1 pc = .ok (.invokestatic idx, 3)) (hm : hMeth Y' n) (hs : Cond.static Y'.1 ∈ UW) (hlk : hLnk Y.1.cls idx Y'.1) (hst : st = as.reverse ++ st') (hn : as.length = n) (hc8 : (st'.map fun v => v.category).sum ≤ 8) (hdd : d' + 1 ≤ d)
    (hkc : kc = mc + kc') (hks : ks = ms + ks') (k : Eg Y d kc' ks' res (pc + 3) l (v.toList ++ st') u') : Eg Y d kc ks res pc l st u := by
  refine Eg.run (fun g p lch e R s m args below meth c H locs cells slots ls A h1 h2 h3 h4 I hl => ⟨(as.map (cv g.1)).toArray, ?_⟩) hkc hks k
  have hts := A.2.2.2.2.2.2.2.1
  have hcs : (st.map (cv g.1)) = (as.map (cv g.1)).reverse ++ st'.map (cv g.1) := by rw [hst, List.map_append, List.map_reverse]
  have h8 : ((st'.map (cv g.1)).map fun v => v.category).sum ≤ 8 := by rw [cv_sum]; exact hc8
  have hR := hRm (d' := d') h1 h2 hdd hm.2.2.2.2
  rcases hlk with hlk | ⟨host, hlk⟩
  · exact va_runS (Ts := UW) (n := n) (bytes := Y'.2.1) (maxL := Y'.2.2.1) (ret := Y'.2.2.2) ⟨A.1, A.2.1, A.2.2.1, A.2.2.2.2.2.2.1, hts⟩ (hM g lch) ⟨⟨rfl, rfl, hR.1, hR.2, hWs_warm hts hm.1, List.mem_cons_self, hts _ hm.1, hts _ hm.2.1, hm.2.2.1, hSig hm.2.2.2.1, hts _ hlk⟩, hts _ hs⟩ ⟨hPc_blind g u as, hPre A I as⟩ rfl (by rw [List.length_map]; exact hn) hl.1 hcs (lv_room h8) hd ⟨h3, h4⟩
  · exact va_runSN (Ts := UW) (n := n) (host := host) (bytes := Y'.2.1) (maxL := Y'.2.2.1) (ret := Y'.2.2.2) ⟨A.1, A.2.1, A.2.2.1, A.2.2.2.2.2.2.1, hts⟩ (hM g lch) ⟨⟨⟨rfl, rfl, hR.1, hR.2, hWs_warm hts hm.1, List.mem_cons_self⟩, hts _ hm.1, hts _ hm.2.1, hm.2.2.1, hSig hm.2.2.2.1, hts _ hlk⟩, hts _ hs, trivial⟩ ⟨hPc_blind g u as, hPre A I as⟩ rfl (by rw [List.length_map]; exact hn) hl.1 hcs (lv_room h8) hd ⟨h3, h4⟩
/-- invokevirtual -/
theorem Eg.callV {n idx o ci N : Nat} (hM : Ev d' Y' mc ms (.ref o :: as) u (v, u')) (hd : decode Y.2.1 pc = .ok (.invokevirtual idx, 3)) (hm : hMeth Y' n) (hv : hVirt Y' ci) (hlk : hLnk Y.1.cls idx Y'.1) (hko : mK u o = (ci, N)) (hst : st = as.reverse ++ .ref o :: st') (hn : as.length = n) (hc8 : (st'.map fun v => v.category).sum ≤ 8) (hdd : d' + 1 ≤ d)
    (hkc : kc = mc + kc') (hks : ks = ms + ks') (k : Eg Y d kc' ks' res (pc + 3) l (v.toList ++ st') u') : Eg Y d kc ks res pc l st u := by
  refine Eg.run (fun g p lch e R s m args below meth c H locs cells slots ls A h1 h2 h3 h4 I hl => ⟨(Value.ref (g.1 + o) :: as.map (cv g.1)).toArray, ?_⟩) hkc hks k
  have hts := A.2.2.2.2.2.2.2.1
  have hcs : (st.map (cv g.1)) = (as.map (cv g.1)).reverse ++ .ref (g.1 + o) :: st'.map (cv g.1) := by rw [hst, List.map_append, List.map_reverse]; rfl
  have h8 : ((st'.map (cv g.1)).map fun v => v.category).sum ≤ 8 := by rw [cv_sum]; exact hc8
  have hR := hRm (d' := d') h1 h2 hdd hm.2.2.2.2
  obtain ⟨T0, N0, hcl⟩ := hv.2.2.1
  have hrc : ∃ cellB : Cell, H[g.1 + o]? = some cellB ∧ cellB.vm.isStatics = false ∧ s.vm.findClass Y'.1.cls = some cellB.cls := by
    obtain ⟨cell, q1, q2, q3, -⟩ := I.1.obj hko hv.2.2.2
    exact ⟨cell, q1, by rw [q3]; rfl, by rw [q2]; exact (A.2.2.2.2.2.2.2.2.1.1 ci _ hcl).2.1⟩
  rcases hlk with hlk | ⟨host, hlk⟩
  · exact va_runV (Ts := UW) (n := n) (C := Y'.1.cls) (bytes := Y'.2.1) (maxL := Y'.2.2.1) (ret := Y'.2.2.2) ⟨A.1, A.2.1, A.2.2.1, A.2.2.2.2.2.2.1, hts⟩ (hM g lch) ⟨⟨rfl, rfl, hR.1, hR.2, hWs_warm hts hm.1, List.mem_cons_self, hts _ hm.1, hts _ hm.2.1, hm.2.2.1, hSig hm.2.2.2.1, hts _ hlk⟩, hts _ hv.1, hts _ hv.2.1⟩ ⟨hPc_blind g u (.ref o :: as), hrc, hPre A I (.ref o :: as)⟩ rfl (by rw [List.length_map]; exact hn) hl.1 hcs (lv_room h8) hd ⟨h3, h4⟩
  · exact va_runVN (Ts := UW) (n := n) (C := Y'.1.cls) (host := host) (bytes := Y'.2.1) (maxL := Y'.2.2.1) (ret := Y'.2.2.2) ⟨A.1, A.2.1, A.2.2.1, A.2.2.2.2.2.2.1, hts⟩ (hM g lch) ⟨⟨⟨rfl, rfl, hR.1, hR.2, hWs_warm hts hm.1, List.mem_cons_self⟩, hts _ hm.1, hts _ hm.2.1, hm.2.2.1, hSig hm.2.2.2.1, hts _ hlk⟩, hts _ hv.1, hts _ hv.2.1⟩ ⟨hPc_blind g u (.ref o :: as), hrc, hPre A I (.ref o :: as)⟩ rfl (by rw [List.length_map]; exact hn) hl.1 hcs (lv_room h8) hd ⟨h3, h4⟩
/-- invokespecial of a constructor -/
theorem Eg.callI {n idx o : Nat} (hM : Ev d' Y' mc ms (.ref o :: as) u (v, u')) (hret : Y'.2.2.2 = none) (hd : decode Y.2.1 pc = .ok (.invokespecial idx, 3)) (hm : hMeth Y' n) (hnm : Y'.1.name = "<init>") (hi : Cond.instanceMethod Y'.1 ∈ UW) (hlk : hLnk Y.1.cls idx Y'.1) (hst : st = as.reverse ++ .ref o :: st') (hn : as.length = n) (hc8 : (st'.map fun v => v.category).sum ≤ 8) (hdd : d' + 1 ≤ d)
    (hkc : kc = mc + kc') (hks : ks = ms + ks') (k : Eg Y d kc' ks' res (pc + 3) l (v.toList ++ st') u') : Eg Y d kc ks res pc l st u := by
  refine Eg.run (fun g p lch e R s m args below meth c H locs cells slots ls A h1 h2 h3 h4 I hl => ⟨(Value.ref (g.1 + o) :: as.map (cv g.1)).toArray, ?_⟩) hkc hks k
  have hts := A.2.2.2.2.2.2.2.1
  have hcs : (st.map (cv g.1)) = (as.map (cv g.1)).reverse ++ .ref (g.1 + o) :: st'.map (cv g.1) := by rw [hst, List.map_append, List.map_reverse]; rfl
  have h8 : ((st'.map (cv g.1)).map fun v => v.category).sum ≤ 8 := by rw [cv_sum]; exact hc8
  have hR := hRm (d' := d') h1 h2 hdd hm.2.2.2.2
  have hm1 : Cond.code Y'.1 Y'.2.1 Y'.2.2.1 none ∈ UW := hret ▸ hm.1
  have hmw : Cond.code Y'.1 Y'.2.1 Y'.2.2.1 none ∈ hWs Y' := List.mem_cons_of_mem _ hm1
  rcases hlk with hlk | ⟨host, hlk⟩
  · exact va_runI (Ts := UW) (n := n) (bytes := Y'.2.1) (maxL := Y'.2.2.1) ⟨A.1, A.2.1, A.2.2.1, A.2.2.2.2.2.2.1, hts⟩ (hM g lch) ⟨⟨rfl, rfl, hR.1, hR.2, hWs_warm hts hm.1, hmw, hts _ hm1, hts _ hm.2.1, hm.2.2.1, hSig hm.2.2.2.1, hts _ hlk⟩, hnm, hts _ hi⟩ ⟨hPc_blind g u (.ref o :: as), hPre A I (.ref o :: as)⟩ rfl (by rw [List.length_map]; exact hn) hl.1 hcs (lv_room h8) hd ⟨h3, h4⟩
  · exact va_runIN (Ts := UW) (n := n) (host := host) (bytes := Y'.2.1) (maxL := Y'.2.2.1) ⟨A.1, A.2.1, A.2.2.1, A.2.2.2.2.2.2.1, hts⟩ (hM g lch) ⟨⟨⟨rfl, rfl, hR.1, hR.2, hWs_warm hts hm.1, hmw⟩, hts _ hm1, hts _ hm.2.1, hm.2.2.1, hSig hm.2.2.2.1, hts _ hlk⟩, hnm, hts _ hi⟩ ⟨hPc_blind g u (.ref o :: as), hPre A I (.ref o :: as)⟩ rfl (by rw [List.length_map]; exact hn) hl.1 hcs (lv_room h8) hd ⟨h3, h4⟩
end ECALL
