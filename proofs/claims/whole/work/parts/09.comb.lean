/-! ===== the functions' joints, and their rows ===== -/
section ECOMB
variable {Y : MI} {d kc ks pc : Nat} {res : Option Value × Mm} {l l' : List (Nat × Value)} {st : List Value} {u : Mm} {ρ : Type} {r : ρ} {X B : Option ρ}
def oI (x : Int32) (F : Int32 → Option ρ) : Option ρ := F x
def oJ (x : Int64) (F : Int64 → Option ρ) : Option ρ := F x
def oU (u : Mm) (F : Mm → Option ρ) : Option ρ := F u
def oB {α : Type} (x : Option (α × Mm)) (F : α → Mm → Option ρ) : Option ρ := match x with
  | none => none
  | some q => F q.1 q.2
def oR (u : Mm) (o ci : Nat) (X : Option ρ) : Option ρ := if (mK u o).1 = ci then X else none
def oP (p : Nat) (F : Nat → Option ρ) : Option ρ := F p
theorem E_oP {x : Nat} {F : Nat → Option ρ} (h : oP x F = some r) (k : ∀ y, F y = some r → Eg Y d kc ks res pc l (.ref y :: st) u) : Eg Y d kc ks res pc l (.ref x :: st) u := k x h
theorem E_tabD {dflt lo hi : Int} {offs : Array Int} {len tgt : Nat} {x : Int32} (keys : List Int) (hd : decode Y.2.1 pc = .ok (.tableswitch dflt lo hi offs, len)) (hk : ∀ k ∈ keys, x.toInt ≠ k) (hall : (List.range (hi - lo + 1).toNat).all (fun i => keys.contains (lo + i) || offs[i]? == some dflt) = true) (ht : (pc : Int) + dflt = (tgt : Int)) (k : Eg Y d kc ks res tgt l st u) : Eg Y d kc ks res pc l (.int x :: st) u := by
  by_cases h1 : x.toInt < lo ∨ hi < x.toInt
  · exact E_tabOut hd h1 ht k
  · have h2 : ¬ x.toInt < lo := fun h => h1 (Or.inl h)
    have h3 : ¬ hi < x.toInt := fun h => h1 (Or.inr h)
    have h4 := List.all_eq_true.mp hall (x.toInt - lo).toNat (List.mem_range.mpr (by omega))
    have e : lo + ((x.toInt - lo).toNat : Int) = x.toInt := by omega
    rw [e] at h4
    rcases Bool.or_eq_true_iff.mp h4 with h5 | h5
    · exact absurd rfl (hk x.toInt (List.contains_iff_mem.mp h5))
    · exact E_tabIn hd rfl h2 h3 (by simpa using h5) ht k
theorem E_look2 {dflt o1 o2 : Int} {a b : Int} {len tgt : Nat} {x : Int32} (hd : decode Y.2.1 pc = .ok (.lookupswitch dflt #[(a, o1), (b, o2)], len)) (hab : a < b) (h1 : x.toInt ≠ a) (h2 : x.toInt ≠ b) (ht : (pc : Int) + dflt = (tgt : Int)) (k : Eg Y d kc ks res tgt l st u) : Eg Y d kc ks res pc l (.int x :: st) u := E_lookup hd (by simp [hab]) (by show Op.lookupswitch.offset [(a, o1), (b, o2)] dflt x.toInt = dflt; rw [Op.lookupswitch.offset_cons, Op.lookupswitch.offset_cons, Op.lookupswitch.offset_nil]; simp [Ne.symm h1, Ne.symm h2, h1, h2]) ht k
/-- how often a loop may turn -/
def hwF : Nat := 1000000
theorem oB_some {α : Type} {x : Option (α × Mm)} {F : α → Mm → Option ρ} (h : oB x F = some r) : ∃ a m, x = some (a, m) ∧ F a m = some r := by
  cases x with
  | none => cases h
  | some q => exact ⟨q.1, q.2, rfl, h⟩
theorem E_oI {x : Int32} {F : Int32 → Option ρ} (h : oI x F = some r) (k : ∀ y, F y = some r → Eg Y d kc ks res pc l (.int y :: st) u) : Eg Y d kc ks res pc l (.int x :: st) u := k x h
theorem E_oJ {x : Int64} {F : Int64 → Option ρ} (h : oJ x F = some r) (k : ∀ y, F y = some r → Eg Y d kc ks res pc l (.long y :: st) u) : Eg Y d kc ks res pc l (.long x :: st) u := k x h
theorem E_oU {F : Mm → Option ρ} (h : oU u F = some r) (k : ∀ v, F v = some r → Eg Y d kc ks res pc l st v) : Eg Y d kc ks res pc l st u := k u h
theorem E_oNn {x : Option Nat} {F : Nat → Option ρ} (h : oNn x F = some r) (k : ∀ a, F a = some r → Eg Y d kc ks res pc l (.ref a :: st) u) : Eg Y d kc ks res pc l (va_rf x :: st) u := by
  obtain ⟨a, rfl, hF⟩ := oNn_some h
  exact k a hF
theorem Eg.pick (is : List Nat) (hl : is.filterMap (fun i => l[i]?) = l') (k : Eg Y d kc ks res pc l' st u) : Eg Y d kc ks res pc l st u := Eg.locals (fun q hq => by
  rw [← hl] at hq
  obtain ⟨i, -, hi⟩ := List.mem_filterMap.mp hq
  exact List.mem_of_getElem? hi) k
theorem Eg.more {kc' ks' : Nat} (h1 : kc' ≤ kc) (h2 : ks' ≤ ks) (k : Eg Y d kc' ks' res pc l st u) : Eg Y d kc ks res pc l st u := by
  intro g p lch e R s m args below meth c H locs cells slots ls A g1 g2 g3 g4 I hl
  refine W.widen (k := cells + (kc - kc')) (n := slots + (ks - ks')) (Nat.le_add_right _ _) (Nat.le_add_right _ _) ?_
  have hw := k g p lch e R s m args below meth c H locs (cells + (kc - kc')) (slots + (ks - ks')) ls A g1 g2 (by omega) (by omega) I hl
  rw [show cells + (kc - kc') + kc' = cells + kc by omega, show slots + (ks - ks') + ks' = slots + ks by omega] at hw
  exact hw
theorem ite_cases {P G : Prop} [Decidable P] {A : Option ρ} (h : (if P then A else B) = some r) (kt : P → A = some r → G) (kf : ¬ P → B = some r → G) : G := by
  by_cases c : P
  · exact kt c (by rw [if_pos c] at h; exact h)
  · exact kf c (by rw [if_neg c] at h; exact h)
theorem ne_lit {x v : Int32} {k : Int} (hk : v.toInt = k) (h : ¬ x = v) : x.toInt ≠ k := fun e => h (Int32.toInt_inj.mp (e.trans hk.symm))
theorem addI {x v : Int32} {n : Int} (h : Int32.ofInt n = v) : x + Int32.ofInt n = x + v := by rw [h]
variable {Y' : MI} {d' mc ms kc' ks' n idx : Nat} {as : List Value} {st' : List Value}
theorem F_Si {x : Option (Int32 × Mm)} {F : Int32 → Mm → Option ρ} (h : oB x F = some r) (hM : ∀ a m, x = some (a, m) → Ev d' Y' mc ms as u (some (.int a), m)) (hd : decode Y.2.1 pc = .ok (.invokestatic idx, 3)) (hm : hMeth Y' n) (hs : Cond.static Y'.1 ∈ UW) (hlk : hLnk Y.1.cls idx Y'.1) (hst : st = as.reverse ++ st') (hn : as.length = n) (hc8 : (st'.map fun v => v.category).sum ≤ 8) (hdd : d' + 1 ≤ d) (hkc : kc = mc + kc') (hks : ks = ms + ks') (k : ∀ a m, F a m = some r → Eg Y d kc' ks' res (pc + 3) l (.int a :: st') m) : Eg Y d kc ks res pc l st u := by
  obtain ⟨a, m, e, hF⟩ := oB_some h
  exact Eg.callS (hM a m e) hd hm hs hlk hst hn hc8 hdd hkc hks (k a m hF)
theorem F_Vi {x : Option (Int32 × Mm)} {F : Int32 → Mm → Option ρ} {o ci : Nat} (h : oR u o ci (oB x F) = some r) (hM : ∀ a m, x = some (a, m) → Ev d' Y' mc ms (.ref o :: as) u (some (.int a), m)) (hd : decode Y.2.1 pc = .ok (.invokevirtual idx, 3)) (hm : hMeth Y' n) (hv : hVirt Y' ci) (hlk : hLnk Y.1.cls idx Y'.1) (hst : st = as.reverse ++ .ref o :: st') (hn : as.length = n) (hc8 : (st'.map fun v => v.category).sum ≤ 8) (hdd : d' + 1 ≤ d) (hkc : kc = mc + kc') (hks : ks = ms + ks') (k : ∀ a m, F a m = some r → Eg Y d kc' ks' res (pc + 3) l (.int a :: st') m) : Eg Y d kc ks res pc l st u := by
  obtain ⟨h1, h2⟩ := ite_some h
  obtain ⟨a, m, e, hF⟩ := oB_some h2
  exact Eg.callV (hM a m e) hd hm hv hlk (mK_eta h1) hst hn hc8 hdd hkc hks (k a m hF)
theorem F_Sl {x : Option (Int64 × Mm)} {F : Int64 → Mm → Option ρ} (h : oB x F = some r) (hM : ∀ a m, x = some (a, m) → Ev d' Y' mc ms as u (some (.long a), m)) (hd : decode Y.2.1 pc = .ok (.invokestatic idx, 3)) (hm : hMeth Y' n) (hs : Cond.static Y'.1 ∈ UW) (hlk : hLnk Y.1.cls idx Y'.1) (hst : st = as.reverse ++ st') (hn : as.length = n) (hc8 : (st'.map fun v => v.category).sum ≤ 8) (hdd : d' + 1 ≤ d) (hkc : kc = mc + kc') (hks : ks = ms + ks') (k : ∀ a m, F a m = some r → Eg Y d kc' ks' res (pc + 3) l (.long a :: st') m) : Eg Y d kc ks res pc l st u := by
  obtain ⟨a, m, e, hF⟩ := oB_some h
  exact Eg.callS (hM a m e) hd hm hs hlk hst hn hc8 hdd hkc hks (k a m hF)
theorem F_Vl {x : Option (Int64 × Mm)} {F : Int64 → Mm → Option ρ} {o ci : Nat} (h : oR u o ci (oB x F) = some r) (hM : ∀ a m, x = some (a, m) → Ev d' Y' mc ms (.ref o :: as) u (some (.long a), m)) (hd : decode Y.2.1 pc = .ok (.invokevirtual idx, 3)) (hm : hMeth Y' n) (hv : hVirt Y' ci) (hlk : hLnk Y.1.cls idx Y'.1) (hst : st = as.reverse ++ .ref o :: st') (hn : as.length = n) (hc8 : (st'.map fun v => v.category).sum ≤ 8) (hdd : d' + 1 ≤ d) (hkc : kc = mc + kc') (hks : ks = ms + ks') (k : ∀ a m, F a m = some r → Eg Y d kc' ks' res (pc + 3) l (.long a :: st') m) : Eg Y d kc ks res pc l st u := by
  obtain ⟨h1, h2⟩ := ite_some h
  obtain ⟨a, m, e, hF⟩ := oB_some h2
  exact Eg.callV (hM a m e) hd hm hv hlk (mK_eta h1) hst hn hc8 hdd hkc hks (k a m hF)
theorem F_Sq {x : Option ((Option Nat) × Mm)} {F : (Option Nat) → Mm → Option ρ} (h : oB x F = some r) (hM : ∀ a m, x = some (a, m) → Ev d' Y' mc ms as u (some (va_rf a), m)) (hd : decode Y.2.1 pc = .ok (.invokestatic idx, 3)) (hm : hMeth Y' n) (hs : Cond.static Y'.1 ∈ UW) (hlk : hLnk Y.1.cls idx Y'.1) (hst : st = as.reverse ++ st') (hn : as.length = n) (hc8 : (st'.map fun v => v.category).sum ≤ 8) (hdd : d' + 1 ≤ d) (hkc : kc = mc + kc') (hks : ks = ms + ks') (k : ∀ a m, F a m = some r → Eg Y d kc' ks' res (pc + 3) l (va_rf a :: st') m) : Eg Y d kc ks res pc l st u := by
  obtain ⟨a, m, e, hF⟩ := oB_some h
  exact Eg.callS (hM a m e) hd hm hs hlk hst hn hc8 hdd hkc hks (k a m hF)
theorem F_Vq {x : Option ((Option Nat) × Mm)} {F : (Option Nat) → Mm → Option ρ} {o ci : Nat} (h : oR u o ci (oB x F) = some r) (hM : ∀ a m, x = some (a, m) → Ev d' Y' mc ms (.ref o :: as) u (some (va_rf a), m)) (hd : decode Y.2.1 pc = .ok (.invokevirtual idx, 3)) (hm : hMeth Y' n) (hv : hVirt Y' ci) (hlk : hLnk Y.1.cls idx Y'.1) (hst : st = as.reverse ++ .ref o :: st') (hn : as.length = n) (hc8 : (st'.map fun v => v.category).sum ≤ 8) (hdd : d' + 1 ≤ d) (hkc : kc = mc + kc') (hks : ks = ms + ks') (k : ∀ a m, F a m = some r → Eg Y d kc' ks' res (pc + 3) l (va_rf a :: st') m) : Eg Y d kc ks res pc l st u := by
  obtain ⟨h1, h2⟩ := ite_some h
  obtain ⟨a, m, e, hF⟩ := oB_some h2
  exact Eg.callV (hM a m e) hd hm hv hlk (mK_eta h1) hst hn hc8 hdd hkc hks (k a m hF)
theorem F_Sv {x : Option (Unit × Mm)} {F : Unit → Mm → Option ρ} (h : oB x F = some r) (hM : ∀ m, x = some ((), m) → Ev d' Y' mc ms as u (none, m)) (hd : decode Y.2.1 pc = .ok (.invokestatic idx, 3)) (hm : hMeth Y' n) (hs : Cond.static Y'.1 ∈ UW) (hlk : hLnk Y.1.cls idx Y'.1) (hst : st = as.reverse ++ st') (hn : as.length = n) (hc8 : (st'.map fun v => v.category).sum ≤ 8) (hdd : d' + 1 ≤ d) (hkc : kc = mc + kc') (hks : ks = ms + ks') (k : ∀ m, F () m = some r → Eg Y d kc' ks' res (pc + 3) l st' m) : Eg Y d kc ks res pc l st u := by
  obtain ⟨a, m, e, hF⟩ := oB_some h
  exact Eg.callS (hM m e) hd hm hs hlk hst hn hc8 hdd hkc hks (k m hF)
theorem F_Vv {x : Option (Unit × Mm)} {F : Unit → Mm → Option ρ} {o ci : Nat} (h : oR u o ci (oB x F) = some r) (hM : ∀ m, x = some ((), m) → Ev d' Y' mc ms (.ref o :: as) u (none, m)) (hd : decode Y.2.1 pc = .ok (.invokevirtual idx, 3)) (hm : hMeth Y' n) (hv : hVirt Y' ci) (hlk : hLnk Y.1.cls idx Y'.1) (hst : st = as.reverse ++ .ref o :: st') (hn : as.length = n) (hc8 : (st'.map fun v => v.category).sum ≤ 8) (hdd : d' + 1 ≤ d) (hkc : kc = mc + kc') (hks : ks = ms + ks') (k : ∀ m, F () m = some r → Eg Y d kc' ks' res (pc + 3) l st' m) : Eg Y d kc ks res pc l st u := by
  obtain ⟨h1, h2⟩ := ite_some h
  obtain ⟨a, m, e, hF⟩ := oB_some h2
  exact Eg.callV (hM m e) hd hm hv hlk (mK_eta h1) hst hn hc8 hdd hkc hks (k m hF)
theorem F_Iv {x : Option (Unit × Mm)} {F : Unit → Mm → Option ρ} {o : Nat} (h : oB x F = some r) (hM : ∀ m, x = some ((), m) → Ev d' Y' mc ms (.ref o :: as) u (none, m)) (hret : Y'.2.2.2 = none) (hd : decode Y.2.1 pc = .ok (.invokespecial idx, 3)) (hm : hMeth Y' n) (hnm : Y'.1.name = "<init>") (hi : Cond.instanceMethod Y'.1 ∈ UW) (hlk : hLnk Y.1.cls idx Y'.1) (hst : st = as.reverse ++ .ref o :: st') (hn : as.length = n) (hc8 : (st'.map fun v => v.category).sum ≤ 8) (hdd : d' + 1 ≤ d) (hkc : kc = mc + kc') (hks : ks = ms + ks') (k : ∀ m, F () m = some r → Eg Y d kc' ks' res (pc + 3) l st' m) : Eg Y d kc ks res pc l st u := by
  obtain ⟨a, m, e, hF⟩ := oB_some h
  exact Eg.callI (hM m e) hret hd hm hnm hi hlk hst hn hc8 hdd hkc hks (k m hF)
end ECOMB
