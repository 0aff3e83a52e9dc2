/-! ===== the law from its entry, open in the relation ===== -/
theorem k_prim {ty : FieldType} {args : Array Value} {s : State} (hra : ∀ cA : ClassId, s.vm.findClass ("[" ++ ty.toString) = some cA → va_RA s cA ty) (h : (Cond.arrayClass ty).before args s = true) : ∃ cA : ClassId, ArrOfT s cA ty ∧ va_RA s cA ty := by
  obtain ⟨c, k, comp, h1, h2, h3⟩ := Cond.arrayClass_spec h
  exact ⟨c, fun n z => ⟨fun k h => (by cases h), k, h2, comp, h3⟩, hra c h1⟩
theorem k_obj {C : String} {args : Array Value} {s : State} (h : (Cond.arrayOver (.object C)).before args s = true) : ∃ cA : ClassId, ArrOfT s cA (.object C) ∧ va_RA s cA (.object C) := by
  obtain ⟨comp, c, k, h1, h2, h3, h4, h5⟩ := Cond.arrayOver_spec h
  exact ⟨c, fun n z => ⟨fun k h => (by cases h), k, h3, comp, h4⟩, k, comp, h3, h4, h1, h5⟩
theorem k_cls {args : Array Value} {s : State} (hts : ∀ w ∈ UW, w.before args s = true) : ∀ k : Nat, ∃ cd : ClassId × (Nat → Nat), ∀ q : vw_C, hwCl[k]? = some q → u_Kn s q.1 q.2.1 q.2.2 cd.1 cd.2 := by
  have one : ∀ {ci : Nat} {C : String} {T : u_T} {N : Nat}, CF ci C T N → Cond.instantiable C N ∈ UW → ∃ cd : ClassId × (Nat → Nat), ∀ q : vw_C, hwCl[ci]? = some q → u_Kn s q.1 q.2.1 q.2.2 cd.1 cd.2 := by
    intro ci C T N hC hi
    obtain ⟨c, iS, h⟩ := u_known hts hC.2.2.1 (hts _ hi)
    exact ⟨(c, iS), fun q hq => by rw [hC.1] at hq; cases hq; exact h⟩
  intro k
  match k with
  | 0 => exact one cf0 in_X0
  | 1 => exact one cf1 in_X1
  | 2 => exact one cf2 in_X2
  | 3 => exact one cf3 in_X3
  | 4 => exact one cf4 in_X4
  | 5 => exact one cf5 in_X5
  | 6 => exact one cf6 in_X6
  | 7 => exact one cf7 in_X7
  | 8 => exact one cf8 in_X8
  | 9 => exact one cf9 in_X9
  | k + 10 => exact ⟨(0, fun _ => 0), fun q hq => by simp [hwCl] at hq⟩
theorem n_el : ∀ j : Nat, j < 141 → Cond.eq (.elem (.field (.string "HyphenWar$Reader" 72) "java/lang/String" "value" "[B") (.int (Int32.ofNat j))) (.int (hwBy.getD j 0)) ∈ flatC (Jvm.Cond.and given_1 narrow_1) := by decide +kernel
set_option maxRecDepth 100000 in
set_option maxHeartbeats 4000000 in
theorem k_str {args : Array Value} {s : State} {z : Nat} (hz : z = s.heap.size) (hts : ∀ w ∈ lw_tbl, w.before args s = true) (hgv : (Jvm.Cond.and given_1 narrow_1).before args s = true) : ∃ K V : Nat, vk_R "HyphenWar$Reader" 72 hwTx K s ∧ vk_S 1 [hwBy.length] [hwBy] (fun _ => K) (fun _ => V) (fun q => z ≤ q) s s.heap ∧ va_Z "java/lang/String" "COMPACT_STRINGS" "Z" (.int 1) (fun q => z ≤ q) s s.heap ∧ va_Zq "jdk/internal/util/Preconditions" "SIOOBE_FORMATTER" "Ljava/util/function/BiFunction;" (fun q => z ≤ q) s s.heap := by
  have hs := flat_of_before _ hgv
  have hA : ∀ a : Nat, a < s.heap.size → ¬ (fun q => z ≤ q) a := fun a ha => by subst hz; exact Nat.not_le.mpr ha
  obtain ⟨adK, adV, hS, hE⟩ := vk_Sof (N := 1) (tm := fun _ => .string "HyphenWar$Reader" 72) (len := [hwBy.length]) (byt := [hwBy]) (A := fun q => z ≤ q) (args := args) (s := s)
    (fun i hi => by rw [show i = 0 by omega]; show hwBy.length < 2 ^ 31; rw [hwBy_len]; decide)
    (fun i hi => hs _ (by decide +kernel)) (fun i hi => hs _ (by decide +kernel)) (fun i hi => hs _ (by decide +kernel))
    (fun i hi => by rw [show i = 0 by omega]; exact hs _ (by decide +kernel))
    (fun i hi j hj => by
      rw [show i = 0 by omega] at hj ⊢
      have hj2 : j < 141 := by rw [← hwBy_len]; exact hj
      exact hs _ (n_el j hj2))
    (fun i j hi hj hij => absurd (show i = j by omega) hij) hA
  refine ⟨adK 0, adV 0, vk_R.of (hts _ (List.mem_of_getElem? (i := 626) (by decide +kernel))) (hE 0 (by decide)), ⟨fun i hi => by rw [show i = 0 by omega]; exact hS.1 0 (by decide), fun i j hi hj _ => by omega⟩, va_Zof (hts _ (List.mem_of_getElem? (i := 636) (by decide +kernel))) (hts _ (List.mem_of_getElem? (i := 105) (by decide +kernel))) (va_eqt (hs _ (by decide +kernel))) hA, va_Zqof (hts _ (List.mem_of_getElem? (i := 652) (by decide +kernel))) (hts _ (List.mem_of_getElem? (i := 107) (by decide +kernel))) (hs _ (by decide +kernel)) hA⟩
theorem k_all {args : Array Value} {s : State} (hts : ∀ w ∈ lw_tbl, w.before args s = true) (hgv : (Jvm.Cond.and given_1 narrow_1).before args s = true) : ∃ g : hG, g.1 = s.heap.size ∧ KK g s := by
  have hU : ∀ w ∈ UW, w.before args s = true := fun w hw => hts w (List.mem_filter.mp hw).1
  obtain ⟨K, V, h1, h2, h3, h4⟩ := k_str rfl hts hgv
  obtain ⟨cd, hcd⟩ := Classical.axiomOfChoice (k_cls hU)
  obtain ⟨cI, i1, i2⟩ := k_prim (ty := .int) (fun _ h => h) (hU _ aw_int)
  obtain ⟨cJ, j1, j2⟩ := k_prim (ty := .long) (fun _ h => h) (hU _ aw_long)
  obtain ⟨cZ, z1, z2⟩ := k_prim (ty := .boolean) (fun _ h => h) (hU _ aw_boolean)
  obtain ⟨cB, b1, b2⟩ := k_obj (hU _ ao_13)
  obtain ⟨cT, t1, t2⟩ := k_obj (hU _ ao_14)
  refine ⟨(s.heap.size, (fun k => (cd k).1, fun k => (cd k).2), (fun k => if k = 10 then cI else if k = 11 then cJ else if k = 12 then cZ else if k = 13 then cB else cT), K, V), rfl, ⟨fun c q hq => hcd c q hq, fun k q hk => ?_⟩, h1, h2, h3, h4⟩
  match k, hk with
  | 0, hk => cases hk; exact ⟨i1, i2⟩
  | 1, hk => cases hk; exact ⟨j1, j2⟩
  | 2, hk => cases hk; exact ⟨z1, z2⟩
  | 3, hk => cases hk; exact ⟨b1, b2⟩
  | 4, hk => cases hk; exact ⟨t1, t2⟩
  | k + 5, hk => simp [hwTys] at hk
section LAWN
variable {p : Program} {lch : Launch} {e : Env} {s : State} {m : MethodId} {args : Array Value} {below : List Frame} {meth : Method} {c : Code} {H : Heap} {locs : List Loc} {cells slots : Nat} {Q : State → Prop} {pc : Nat} {ls : Array Slot} {rest : List Value} {g : hG} {b L : Nat} {xs : Nat → Int32} {u u' : Mm}
theorem L_new {C : String} {T : u_T} {N ci idx : Nat} (A : lAmb p s m args meth c g b L xs) (I : hInv g s u H locs) (hd : decode code pc = .ok (.new idx, 3)) (hC : CF ci C T N) (hcl : Cond.classLink RL idx C ∈ UW) (hin : Cond.instantiable C N ∈ UW) (hini : Cond.initialized C ∈ UW) (hnf : ∀ j, j < N → fvv (fT ci j) 0 0 none = defaultValue (fT ci j)) (hc : cells + 1 ≤ 600000) (hs : slots + N ≤ 7302250)
    (kk : ∀ H1 : Heap, hInv g s (wN u ci N) H1 locs → W p lch e room_1 s m args below meth c H1 locs (cells + 1) (slots + N) Q (F0 m (pc + 3) ls (.ref (g.1 + mN u) :: rest))) : W p lch e room_1 s m args below meth c H locs cells slots Q (F0 m pc ls rest) := by
  have hts := A.2.2.2.2.1
  have hKn := A.2.2.2.2.2.1.1.1 ci _ hC.1
  refine W.newcK (h := g.1 + mN u) A.1 A.2.1 A.2.2.2.1 (hts _ hcl) (hts _ hin) (hts _ hini) rfl hd hc hs hKn.2.1 I.1.1 fun H1 kC hkC e1 z1 o1 => ?_
  refine kk H1 (I.new z1 o1 ?_)
  unfold hAt
  rw [mK_wN, if_pos rfl]
  simp only []
  rw [if_pos hC.2.1]
  refine (u_born (fT ci) hts hC.2.2.1 hKn hkC e1 hC.2.2.2.1).to (fun j hj => ?_)
  show defaultValue (fT ci j) = fvv (fT ci j) (mI (wN u ci N) (mN u) j) (mL (wN u ci N) (mN u) j) ((mR (wN u ci N) (mN u) j).map _)
  rw [mI_wN, mL_wN, mR_wN, if_pos rfl, if_pos rfl, if_pos rfl]
  exact (hnf j hj).symm
theorem L_callI {Y' : MI} {d' mc ms n idx o : Nat} {as : List Value} (A : lAmb p s m args meth c g b L xs) (I : hInv g s u H locs) (hsz : ls.size = 4) (hM : Ev d' Y' mc ms (.ref o :: as) u (none, u')) (hret : Y'.2.2.2 = none) (hd : decode code pc = .ok (.invokespecial idx, 3)) (hm : hMeth Y' n) (hnm : Y'.1.name = "<init>") (hi : Cond.instanceMethod Y'.1 ∈ UW) (hlk : Cond.methodLink RL idx Y'.1 ∈ UW) (hn : as.length = n) (h8 : (rest.map fun v => v.category).sum ≤ 8) (hdd : d' ≤ 200) (hc : cells + mc ≤ 600000) (hs : slots + ms ≤ 7302250)
    (kk : ∀ (H1 : Heap) (locs1 : List Loc), hInv g s u' H1 locs1 → W p lch e room_1 s m args below meth c H1 locs1 (cells + mc) (slots + ms) Q (F0 m (pc + 3) ls rest)) : W p lch e room_1 s m args below meth c H locs cells slots Q (F0 m pc ls ((as.map (cv g.1)).reverse ++ .ref (g.1 + o) :: rest)) := by
  obtain ⟨hx, hb, hml, hown, hts, hK, hX, hbg, hg, hL, hr, hlocks⟩ := A
  have h64 := hm.2.2.2.2
  have hm1 : Cond.code Y'.1 Y'.2.1 Y'.2.2.1 none ∈ UW := hret ▸ hm.1
  have hmw : Cond.code Y'.1 Y'.2.1 Y'.2.2.1 none ∈ hWs Y' := List.mem_cons_of_mem _ hm1
  have hr := va_runI (p := p) (l := lch) (e := e) (R := room_1) (below := below) (meth := meth) (locs := locs) (cells := cells) (slots := slots) (g := F0 m pc ls ((as.map (cv g.1)).reverse ++ .ref (g.1 + o) :: rest)) (rest := rest) (Ts := UW) (n := n) (bytes := Y'.2.1) (maxL := Y'.2.2.1) (nL := 4) ⟨hx, hb, hml, hown, hts⟩ (hM g lch) ⟨⟨rfl, rfl, (by show d' + 1 ≤ 2048; omega), (by show 8 + (Y'.2.2.1 + 11) + 64 * d' ≤ 84000; omega), hWs_warm hts hm.1, hmw, hts _ hm1, hts _ hm.2.1, hm.2.2.1, hSig hm.2.2.2.1, hts _ hlk⟩, hnm, hts _ hi⟩ ⟨hPc_blind g u (.ref o :: as), fun U hU hW => ⟨rfl, by rw [hU]; exact I.1, KK.warm hW (fun q hq => by rw [hU]; exact I.2.1 q hq) hK⟩⟩ rfl (by rw [List.length_map]; exact hn) hsz rfl (lv_room h8) hd ⟨hc, hs⟩
  intro T hT Z
  obtain ⟨v1, st₀, t, T', L', h0, Z', hL', e1, e2, ⟨hv1, hR, hq⟩, stp⟩ := hr T hT Z
  have hv1 : v1 = none := Outcome.returned.inj hv1
  subst hv1
  obtain ⟨t2, a1, b1⟩ := kk T'.heap (locs ++ L') ⟨by rw [e1]; exact hR, fun q hq1 => by rw [e1, hq q hq1, h0]; exact I.2.1 q hq1, fun x hx => by
    rcases List.mem_append.mp hx with h | h
    · exact I.2.2 x h
    · exact hL' x h⟩ T' rfl Z'
  exact ⟨t2, stp t2 a1, b1⟩
end LAWN
set_option maxRecDepth 100000 in
set_option maxHeartbeats 4000000 in
/-- whole_start, open: what is wanting is the relation 'Rel' with its three properties -/
theorem whole_open {Rel : Mm → Prop} (hR0 : ∀ u, Rel u → (mK u 0).1 = 8) (hinit : hwInit Rel) (hall : hwAll Rel) {p : Program} {e : Env} {s : State} {m : MethodId} {below : List Frame} {meth : Method} {c : Code} (l : Launch) (hflags : l.flags = flags0) {b L : Nat} {xs : Nat → Int32} (hL : L ≤ 3072) (C0 : lw_At p s m meth c b L xs) : W p l e room_1 s m #[Value.ref b] below meth c s.heap [] 0 0 (lw_Z below #[Value.ref b] s) (entryFrame m ([Value.ref b] : List Value).toArray 4) := by
  obtain ⟨hx, hb, hr, hml, hown, hts, hX, hbl, hlocks, hgv⟩ := C0
  obtain ⟨g, hg, hK⟩ := k_all hts hgv
  have A : lAmb p s m #[Value.ref b] meth c g b L xs := ⟨hx, hb, hml, hown, fun w hw => hts w (List.mem_filter.mp hw).1, hK, hX, by rw [hg]; exact hbl, hg, hL, hr, hlocks⟩
  have I0 : hInv g s hwU0 s.heap [] := ⟨⟨by rw [hg]; rfl, fun i hi => absurd hi (Nat.not_lt_zero i)⟩, fun _ _ => rfl, fun _ h => by cases h⟩
  obtain ⟨u1, u2, e1, hn1, e2, hu2⟩ := hinit
  have hl := lv_entry ([.ref b]) (n := 4) (Nat.le_of_ble_eq_true rfl)
  rw [lg_entry_eq]
  generalize (lg_sl ([.ref b]) ++ List.replicate (4 - (lg_sl ([.ref b])).length) Slot.unset).toArray = ls at hl ⊢
  have hl : lv_has ls 4 [(0, .ref b)] := hl
  refine L_new A I0 dL_law_0 cf8 cl_L_7 in_X8 ini_X8 nf_X8 (Nat.le_of_ble_eq_true rfl) (Nat.le_of_ble_eq_true rfl) (fun H1 I1 => ?_)
  refine lv_dup hx hb dL_law_3 rfl ?_
  refine L_callI (as := []) (o := 0) A I1 hl.1 (tX8_init e1) rfl dL_law_4 hm_X8_init rfl hi_X8_init ln_L_9 rfl (Nat.le_of_ble_eq_true rfl) (Nat.le_of_ble_eq_true rfl) (Nat.le_of_ble_eq_true rfl) (Nat.le_of_ble_eq_true rfl) (fun H2 locs2 I2 => ?_)
  refine lv_astore_n (lv' := [(1, .ref (g.1 + 0)), (0, .ref b)]) hx hb dL_law_7 rfl hl (by decide) rfl (fun ls hl => ?_)
  refine L_new A I2 dL_law_8 cf9 cl_L_10 in_X9 ini_X9 nf_X9 (Nat.le_of_ble_eq_true rfl) (Nat.le_of_ble_eq_true rfl) (fun H3 I3 => ?_)
  rw [hn1]
  refine lv_dup hx hb dL_law_11 rfl ?_
  refine L_callI (as := []) (o := 45) A I3 hl.1 (tX9_init e2) rfl dL_law_12 hm_X9_init rfl hi_X9_init ln_L_12 rfl (Nat.le_of_ble_eq_true rfl) (Nat.le_of_ble_eq_true rfl) (Nat.le_of_ble_eq_true rfl) (Nat.le_of_ble_eq_true rfl) (fun H4 locs4 I4 => ?_)
  refine lv_astore_n (lv' := [(2, .ref (g.1 + 45)), (1, .ref (g.1 + 0)), (0, .ref b)]) hx hb dL_law_15 rfl hl (by decide) rfl (fun ls hl => ?_)
  refine lv_iconst (v := 0) hx hb dL_law_16 (by decide) ?_
  refine lv_istore_n (lv' := [(3, .int 0), (2, .ref (g.1 + 45)), (1, .ref (g.1 + 0)), (0, .ref b)]) hx hb dL_law_17 rfl hl (by decide) rfl (fun ls hl => ?_)
  exact law_loop (lch := l) (e := e) (below := below) hR0 hall A (L + 1) 0 (by omega) (by omega) u2 H4 locs4 _ _ ls (Nat.le_of_ble_eq_true rfl) (Nat.le_of_ble_eq_true rfl) hu2 I4 (lv_sub hl [3, 2, 1, 0] rfl)
