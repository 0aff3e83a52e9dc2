/-! ===== the words that hold at every method ===== -/
def hwOK : Cond → Bool
  | .arrayClass _ => true
  | .arrayOver (.object _) => true
  | .fieldLinkNest .. => true
  | .methodLinkNest .. => true
  | w => w.onTables && w.keeps
def UW : List Cond := lw_tbl.filter hwOK
theorem UW_of {w : Cond} (h : w ∈ lw_tbl) (ho : hwOK w = true) : w ∈ UW := List.mem_filter.mpr ⟨h, ho⟩
theorem hwOK_warm {w : Cond} (ho : hwOK w = true) {args a' : Array Value} {s U : State} (hW : s.WarmedH U.vm) (h : w.before args s = true) : w.before a' U = true := by
  cases w <;> first
    | exact word_at hW (Or.inr ⟨_, rfl⟩) h
    | exact va_Nw.use rfl (va_Nw.warmF hW (va_Nw.of rfl h))
    | exact va_Nw.use rfl (va_Nw.warmM hW (va_Nw.of rfl h))
    | (rename_i t; cases t <;> first | exact va_AO.use (va_AO.moved hW.alike (va_AO.of h)) | exact word_at hW (Or.inl ho) h)
    | exact word_at hW (Or.inl ho) h
theorem UW_warm {args : Array Value} {s : State} (hts : ∀ w ∈ UW, w.before args s = true) : ∀ w ∈ UW, ∀ (a' : Array Value) (U : State), s.WarmedH U.vm → w.before a' U = true :=
  fun w hw a' U hW => hwOK_warm (List.mem_filter.mp hw).2 hW (hts w hw)
/-! ===== what is known of the tables, of the text of the words ===== -/
def hwTx : String := "reads costs feeds bars attack shift show pass at by to times if or and not side column line men foes supply temper sign day mood done latest "
def hwBy : List Int32 := hwTx.toList.map (fun c => Int32.ofNat c.toNat)
abbrev hwTys (g : hG) : List (ClassId × FieldType) := [(g.2.2.1 10, .int), (g.2.2.1 11, .long), (g.2.2.1 12, .boolean), (g.2.2.1 13, .object "HyphenWar$Book"), (g.2.2.1 14, .object "HyphenWar$Text")]
def hKt (g : hG) (U : State) : Prop := va_K g.2.1 hwCl (hwTys g) U
def hKs (g : hG) (U : State) : Prop := vk_R "HyphenWar$Reader" 72 hwTx g.2.2.2.1 U ∧ vk_S 1 [hwBy.length] [hwBy] (fun _ => g.2.2.2.1) (fun _ => g.2.2.2.2) (fun q => g.1 ≤ q) U U.heap ∧ va_Z "java/lang/String" "COMPACT_STRINGS" "Z" (.int 1) (fun q => g.1 ≤ q) U U.heap ∧ va_Zq "jdk/internal/util/Preconditions" "SIOOBE_FORMATTER" "Ljava/util/function/BiFunction;" (fun q => g.1 ≤ q) U U.heap
def KK (g : hG) (U : State) : Prop := hKt g U ∧ hKs g U
theorem KK.warm {g : hG} {s U : State} (hW : s.WarmedH U.vm) (hH : ∀ q : Nat, q < g.1 → U.heap[q]? = s.heap[q]?) (h : KK g s) : KK g U := by
  have hq : ∀ a : Nat, a < s.heap.size → ¬ g.1 ≤ a → U.heap[a]? = s.heap[a]? := fun a _ h2 => hH a (by omega)
  exact ⟨va_K.moved hW.alike h.1, vk_R.warm hW h.2.1, (h.2.2.1.kept hq).moved hW.alike, (h.2.2.2.1.kept hq).moved hW.alike, (h.2.2.2.2.kept hq).moved hW.alike⟩
theorem KK.calling {g : hG} {U : State} {f : JFrame} {mk : MethodId} {a : Array Value} (h : KK g U) : KK g (U.calling f mk a) := by
  exact ⟨va_K.moved (u := U) (U := U.calling f mk a) (Vm.Alike.refl U.vm) h.1, vk_R.same (u := U) (U := U.calling f mk a) rfl h.2.1, vk_S.moved (u := U) (U := U.calling f mk a) (Vm.Alike.refl U.vm) h.2.2.1, va_Z.moved (u := U) (U := U.calling f mk a) (Vm.Alike.refl U.vm) h.2.2.2.1, va_Zq.moved (u := U) (U := U.calling f mk a) (Vm.Alike.refl U.vm) h.2.2.2.2⟩
/-! ===== the judgement: from here the method comes to its end with 'res' ===== -/
abbrev MI : Type := MethodName × ByteArray × Nat × Option FieldType
def hAmb (Y : MI) (p : Program) (s : State) (m : MethodId) (args : Array Value) (meth : Method) (c : Code) (g : hG) : Prop :=
  p.tables.exec = Jvm.exec ∧ c.code = Y.2.1 ∧ c.maxLocals = Y.2.2.1 ∧ meth.sig.returnType = Y.2.2.2 ∧ meth.locks = false ∧ meth.name = Y.1.name ∧ s.vm.findClass Y.1.cls = some m.cls ∧ (∀ w ∈ UW, w.before args s = true) ∧ KK g s
def hInv (g : hG) (s : State) (u : Mm) (H : Heap) (locs : List Loc) : Prop := Rep g u H ∧ (∀ q, q < g.1 → H[q]? = s.heap[q]?) ∧ ∀ x ∈ locs, g.1 ≤ x.base
def hQc (g : hG) (res : Option Value × Mm) : Array Value → State → Outcome → State → Prop := fun _ st o t => o = .returned (res.1.map (cv g.1)) ∧ Rep g res.2 t.heap ∧ ∀ q, q < g.1 → t.heap[q]? = st.heap[q]?
def Eg (Y : MI) (d kc ks : Nat) (res : Option Value × Mm) (pc : Nat) (l : List (Nat × Value)) (st : List Value) (u : Mm) : Prop :=
  ∀ (g : hG) (p : Program) (lch : Launch) (e : Env) (R : Room) (s : State) (m : MethodId) (args : Array Value) (below : List Frame) (meth : Method) (c : Code) (H : Heap) (locs : List Loc) (cells slots : Nat) (ls : Array Slot),
    hAmb Y p s m args meth c g → d ≤ R.frames → 64 * d ≤ R.locals → cells + kc ≤ R.cells → slots + ks ≤ R.slots → hInv g s u H locs → lv_has ls Y.2.2.1 (l.map (cvp g.1)) →
    W p lch e R s m args below meth c H locs cells slots (MQ below (hQc g res) args s (cells + kc) (slots + ks) (fun q => g.1 ≤ q)) (F0 m pc ls (st.map (cv g.1)))
def hWs (Y : MI) : List Cond := Cond.code Y.1 Y.2.1 Y.2.2.1 Y.2.2.2 :: UW
def hPc (g : hG) (u : Mm) (as : List Value) : Array Value → State → Prop := fun v U => v = (as.map (cv g.1)).toArray ∧ Rep g u U.heap ∧ KK g U
/-- a method's contract: called with these values at this memory, it ends with 'res' -/
def Ev (d : Nat) (Y : MI) (mc ms : Nat) (as : List Value) (u : Mm) (res : Option Value × Mm) : Prop :=
  ∀ (g : hG) (lch : Launch), Met lch Y.1 (hWs Y) ({ frames := d, cells := mc, slots := ms, locals := 64 * d }) (hPc g u as) (hQc g res) mc ms (fun q => g.1 ≤ q)
theorem Ev.of {d mc ms : Nat} {Y : MI} {as : List Value} {u : Mm} {res : Option Value × Mm} (hy : plainName Y.1.cls = true) (hn : (lg_sl as).length ≤ Y.2.2.1) (h : Eg Y d mc ms res 0 (lv_args 0 as) [] u) : Ev d Y mc ms as u res := by
  intro g lch
  refine Met.ofW (cc := Y.2.1) (maxL := Y.2.2.1) (ret := Y.2.2.2) (ws' := UW) hy rfl ?_
  intro p e s m args below meth c s₁ B hml hv
  obtain ⟨rfl, hR, hK⟩ := hv
  have hts := atoms_spec (ws := hWs Y) B.pre
  have hl := lv_entry (as.map (cv g.1)) (n := Y.2.2.1) (by rw [cv_lg]; exact hn)
  rw [lg_entry_eq]
  generalize (lg_sl (as.map (cv g.1)) ++ List.replicate (Y.2.2.1 - (lg_sl (as.map (cv g.1))).length) Slot.unset).toArray = ls at hl ⊢
  rw [cv_args] at hl
  have hw := h g p lch e (headSpec (hWs Y) { frames := d, cells := mc, slots := ms, locals := 64 * d }).room s m (as.map (cv g.1)).toArray below meth c s.heap [] 0 0 ls ⟨B.exec, B.bytes, hml, B.returns, B.notSynchronized, (name_of_methodNamed B.named B.method).1, findClass_of_methodNamed B.named, fun w hw => hts w (List.mem_cons_of_mem _ hw), hK⟩ (Nat.le_refl _) (Nat.le_refl _) (by rw [Nat.zero_add]; exact Nat.le_refl _) (by rw [Nat.zero_add]; exact Nat.le_refl _) ⟨hR, fun _ _ => rfl, fun _ h => by cases h⟩ hl
  rw [Nat.zero_add, Nat.zero_add] at hw
  exact hw
section EROWS
variable {Y : MI} {d kc ks pc : Nat} {res : Option Value × Mm} {l l' : List (Nat × Value)} {st : List Value} {u : Mm}
/-- fewer locals -/
theorem Eg.locals (h : ∀ q ∈ l', q ∈ l) (k : Eg Y d kc ks res pc l' st u) : Eg Y d kc ks res pc l st u := by
  intro g p lch e R s m args below meth c H locs cells slots ls A h1 h2 h3 h4 I hl
  refine k g p lch e R s m args below meth c H locs cells slots ls A h1 h2 h3 h4 I ⟨hl.1, hl.2.1, fun q hq => ?_⟩
  obtain ⟨q0, hq0, rfl⟩ := List.mem_map.mp hq
  exact hl.2.2 _ (List.mem_map.mpr ⟨q0, h q0 hq0, rfl⟩)
/-- a step that changes the stack and the place alone -/
theorem Eg.step {pc' : Nat} {st' : List Value} (h : ∀ (g : hG) {p : Program} {lch : Launch} {e : Env} {R : Room} {s : State} {m : MethodId} {args : Array Value} {below : List Frame} {meth : Method} {c : Code} {H : Heap} {locs : List Loc} {cells slots : Nat} {Q : State → Prop} {ls : Array Slot}, hAmb Y p s m args meth c g → lv_has ls Y.2.2.1 (l.map (cvp g.1)) → W p lch e R s m args below meth c H locs cells slots Q (F0 m pc' ls (st'.map (cv g.1))) → W p lch e R s m args below meth c H locs cells slots Q (F0 m pc ls (st.map (cv g.1))))
    (k : Eg Y d kc ks res pc' l st' u) : Eg Y d kc ks res pc l st u := by
  intro g p lch e R s m args below meth c H locs cells slots ls A h1 h2 h3 h4 I hl
  exact h g A hl (k g p lch e R s m args below meth c H locs cells slots ls A h1 h2 h3 h4 I hl)
theorem Eg.steps {pc' : Nat} {st' : List Value} (h : ∀ (g : hG) {p : Program} {lch : Launch} {e : Env} {R : Room} {s : State} {m : MethodId} {args : Array Value} {below : List Frame} {meth : Method} {c : Code} {H : Heap} {locs : List Loc} {cells slots : Nat} {Q : State → Prop} {ls : Array Slot}, hAmb Y p s m args meth c g → lv_has ls Y.2.2.1 (l.map (cvp g.1)) → (∀ ls' : Array Slot, lv_has ls' Y.2.2.1 (l'.map (cvp g.1)) → W p lch e R s m args below meth c H locs cells slots Q (F0 m pc' ls' (st'.map (cv g.1)))) → W p lch e R s m args below meth c H locs cells slots Q (F0 m pc ls (st.map (cv g.1))))
    (k : Eg Y d kc ks res pc' l' st' u) : Eg Y d kc ks res pc l st u := by
  intro g p lch e R s m args below meth c H locs cells slots ls A h1 h2 h3 h4 I hl
  exact h g A hl (fun ls' hl' => k g p lch e R s m args below meth c H locs cells slots ls' A h1 h2 h3 h4 I hl')
/-- a branch -/
theorem Eg.cond {P : Prop} {pt pf : Nat} {st' : List Value} (h : ∀ (g : hG) {p : Program} {lch : Launch} {e : Env} {R : Room} {s : State} {m : MethodId} {args : Array Value} {below : List Frame} {meth : Method} {c : Code} {H : Heap} {locs : List Loc} {cells slots : Nat} {Q : State → Prop} {ls : Array Slot}, hAmb Y p s m args meth c g → (P → W p lch e R s m args below meth c H locs cells slots Q (F0 m pt ls (st'.map (cv g.1)))) → (¬ P → W p lch e R s m args below meth c H locs cells slots Q (F0 m pf ls (st'.map (cv g.1)))) → W p lch e R s m args below meth c H locs cells slots Q (F0 m pc ls (st.map (cv g.1))))
    (kt : P → Eg Y d kc ks res pt l st' u) (kf : ¬ P → Eg Y d kc ks res pf l st' u) : Eg Y d kc ks res pc l st u := by
  intro g p lch e R s m args below meth c H locs cells slots ls A h1 h2 h3 h4 I hl
  exact h g A (fun hp => kt hp g p lch e R s m args below meth c H locs cells slots ls A h1 h2 h3 h4 I hl) (fun hp => kf hp g p lch e R s m args below meth c H locs cells slots ls A h1 h2 h3 h4 I hl)
/-! constants, locals -/
theorem E_iconst {n : Int} {v : Int32} (hd : decode Y.2.1 pc = .ok (.iconst n, 1)) (hv : Int32.ofInt n = v) (k : Eg Y d kc ks res (pc + 1) l (.int v :: st) u) : Eg Y d kc ks res pc l st u := Eg.step (fun _ _ _ _ _ _ _ _ _ _ _ _ _ _ _ _ _ A _ k => lv_iconst A.1 A.2.1 hd hv k) k
theorem E_bipush {n : Int} {v : Int32} (hd : decode Y.2.1 pc = .ok (.bipush n, 2)) (hv : (Int8.ofInt n).toInt32 = v) (k : Eg Y d kc ks res (pc + 2) l (.int v :: st) u) : Eg Y d kc ks res pc l st u := Eg.step (fun _ _ _ _ _ _ _ _ _ _ _ _ _ _ _ _ _ A _ k => lv_bipush A.1 A.2.1 hd hv k) k
theorem E_sipush {n : Int} {v : Int32} (hd : decode Y.2.1 pc = .ok (.sipush n, 3)) (hv : (Int16.ofInt n).toInt32 = v) (k : Eg Y d kc ks res (pc + 3) l (.int v :: st) u) : Eg Y d kc ks res pc l st u := Eg.step (fun _ _ _ _ _ _ _ _ _ _ _ _ _ _ _ _ _ A _ k => lv_sipush A.1 A.2.1 hd hv k) k
theorem E_lconst {n : Fin 2} {v : Int64} (hd : decode Y.2.1 pc = .ok (.lconst n, 1)) (hv : Int64.ofNat (n : Nat) = v) (k : Eg Y d kc ks res (pc + 1) l (.long v :: st) u) : Eg Y d kc ks res pc l st u := Eg.step (fun _ _ _ _ _ _ _ _ _ _ _ _ _ _ _ _ _ A _ k => lv_lconst A.1 A.2.1 hd hv k) k
theorem E_null (hd : decode Y.2.1 pc = .ok (.aconst_null, 1)) (k : Eg Y d kc ks res (pc + 1) l (.null :: st) u) : Eg Y d kc ks res pc l st u := Eg.step (fun _ _ _ _ _ _ _ _ _ _ _ _ _ _ _ _ _ A _ k => lv_null A.1 A.2.1 hd k) k
theorem E_ldc {own : String} {n : Nat} {v : Int32} (hd : decode Y.2.1 pc = .ok (.ldc n, 2)) (ho : Y.1.cls = own) (hc : Cond.constant own n v ∈ UW) (k : Eg Y d kc ks res (pc + 2) l (.int v :: st) u) : Eg Y d kc ks res pc l st u := Eg.step (fun _ _ _ _ _ _ _ _ _ _ _ _ _ _ _ _ _ A _ k => lv_ldc A.1 A.2.1 (own := own) (ho ▸ A.2.2.2.2.2.2.1) (A.2.2.2.2.2.2.2.1 _ hc) hd k) k
theorem E_ldcw {own : String} {n : Nat} {v : Int32} (hd : decode Y.2.1 pc = .ok (.ldc_w n, 3)) (ho : Y.1.cls = own) (hc : Cond.constant own n v ∈ UW) (k : Eg Y d kc ks res (pc + 3) l (.int v :: st) u) : Eg Y d kc ks res pc l st u := Eg.step (fun _ _ _ _ _ _ _ _ _ _ _ _ _ _ _ _ _ A _ k => lv_ldcw A.1 A.2.1 (own := own) (ho ▸ A.2.2.2.2.2.2.1) (A.2.2.2.2.2.2.2.1 _ hc) hd k) k
theorem E_ldc2 {own : String} {n : Nat} {v : Int64} (hd : decode Y.2.1 pc = .ok (.ldc2_w n, 3)) (ho : Y.1.cls = own) (hc : Cond.constantLong own n v ∈ UW) (k : Eg Y d kc ks res (pc + 3) l (.long v :: st) u) : Eg Y d kc ks res pc l st u := Eg.step (fun _ _ _ _ _ _ _ _ _ _ _ _ _ _ _ _ _ A _ k => lv_ldc2 A.1 A.2.1 (own := own) (ho ▸ A.2.2.2.2.2.2.1) (A.2.2.2.2.2.2.2.1 _ hc) hd k) k
theorem E_iload_n {n : Fin 4} {i : Nat} {x : Int32} (hd : decode Y.2.1 pc = .ok (.iload_n n, 1)) (hi : (n : Nat) = i) (hl : lget l i = some (.int x)) (k : Eg Y d kc ks res (pc + 1) l (.int x :: st) u) : Eg Y d kc ks res pc l st u := Eg.step (fun _ _ _ _ _ _ _ _ _ _ _ _ _ _ _ _ _ A hL k => lv_iload_n A.1 A.2.1 hd hi (lget_has hL hl) k) k
theorem E_iload {i : Nat} {x : Int32} (hd : decode Y.2.1 pc = .ok (.iload i, 2)) (hl : lget l i = some (.int x)) (k : Eg Y d kc ks res (pc + 2) l (.int x :: st) u) : Eg Y d kc ks res pc l st u := Eg.step (fun _ _ _ _ _ _ _ _ _ _ _ _ _ _ _ _ _ A hL k => lv_iload A.1 A.2.1 hd (lget_has hL hl) k) k
theorem E_lload_n {n : Fin 4} {i : Nat} {x : Int64} (hd : decode Y.2.1 pc = .ok (.lload_n n, 1)) (hi : (n : Nat) = i) (hl : lget l i = some (.long x)) (k : Eg Y d kc ks res (pc + 1) l (.long x :: st) u) : Eg Y d kc ks res pc l st u := Eg.step (fun _ _ _ _ _ _ _ _ _ _ _ _ _ _ _ _ _ A hL k => lv_lload_n A.1 A.2.1 hd hi (lget_has hL hl) k) k
theorem E_lload {i : Nat} {x : Int64} (hd : decode Y.2.1 pc = .ok (.lload i, 2)) (hl : lget l i = some (.long x)) (k : Eg Y d kc ks res (pc + 2) l (.long x :: st) u) : Eg Y d kc ks res pc l st u := Eg.step (fun _ _ _ _ _ _ _ _ _ _ _ _ _ _ _ _ _ A hL k => lv_lload A.1 A.2.1 hd (lget_has hL hl) k) k
theorem E_aload_n {n : Fin 4} {i x : Nat} (hd : decode Y.2.1 pc = .ok (.aload_n n, 1)) (hi : (n : Nat) = i) (hl : lget l i = some (.ref x)) (k : Eg Y d kc ks res (pc + 1) l (.ref x :: st) u) : Eg Y d kc ks res pc l st u := Eg.step (fun _ _ _ _ _ _ _ _ _ _ _ _ _ _ _ _ _ A hL k => lv_aload_n A.1 A.2.1 hd hi (lget_has hL hl) k) k
theorem E_aload {i x : Nat} (hd : decode Y.2.1 pc = .ok (.aload i, 2)) (hl : lget l i = some (.ref x)) (k : Eg Y d kc ks res (pc + 2) l (.ref x :: st) u) : Eg Y d kc ks res pc l st u := Eg.step (fun _ _ _ _ _ _ _ _ _ _ _ _ _ _ _ _ _ A hL k => lv_aload A.1 A.2.1 hd (lget_has hL hl) k) k
theorem E_aload_nN {n : Fin 4} {i : Nat} (hd : decode Y.2.1 pc = .ok (.aload_n n, 1)) (hi : (n : Nat) = i) (hl : lget l i = some .null) (k : Eg Y d kc ks res (pc + 1) l (.null :: st) u) : Eg Y d kc ks res pc l st u := Eg.step (fun _ _ _ _ _ _ _ _ _ _ _ _ _ _ _ _ _ A hL k => lv_aload_nN A.1 A.2.1 hd hi (lget_has hL hl) k) k
theorem E_aload_nQ {n : Fin 4} {i : Nat} {x : Option Nat} (hd : decode Y.2.1 pc = .ok (.aload_n n, 1)) (hi : (n : Nat) = i) (hl : lget l i = some (va_rf x)) (k : Eg Y d kc ks res (pc + 1) l (va_rf x :: st) u) : Eg Y d kc ks res pc l st u := by
  cases x with
  | none => exact E_aload_nN hd hi hl k
  | some a => exact E_aload_n hd hi hl k
theorem E_istore_n {n : Fin 4} {i : Nat} {x : Int32} (hd : decode Y.2.1 pc = .ok (.istore_n n, 1)) (hi : (n : Nat) = i) (hn : i < Y.2.2.1) (hl : lset l i (.int x) = l') (k : Eg Y d kc ks res (pc + 1) l' st u) : Eg Y d kc ks res pc l (.int x :: st) u := Eg.steps (fun g _ _ _ _ _ _ _ _ _ _ _ _ _ _ _ _ A hL k => lv_istore_n A.1 A.2.1 hd hi hL hn (by rw [← hl]; exact lset_cv g.1 l i (.int x)) k) k
theorem E_istore {i : Nat} {x : Int32} (hd : decode Y.2.1 pc = .ok (.istore i, 2)) (hn : i < Y.2.2.1) (hl : lset l i (.int x) = l') (k : Eg Y d kc ks res (pc + 2) l' st u) : Eg Y d kc ks res pc l (.int x :: st) u := Eg.steps (fun g _ _ _ _ _ _ _ _ _ _ _ _ _ _ _ _ A hL k => lv_istore A.1 A.2.1 hd hL hn (by rw [← hl]; exact lset_cv g.1 l i (.int x)) k) k
theorem E_lstore_n {n : Fin 4} {i : Nat} {x : Int64} (hd : decode Y.2.1 pc = .ok (.lstore_n n, 1)) (hi : (n : Nat) = i) (hn : i + 1 < Y.2.2.1) (hl : lset2 l i (.long x) = l') (k : Eg Y d kc ks res (pc + 1) l' st u) : Eg Y d kc ks res pc l (.long x :: st) u := Eg.steps (fun g _ _ _ _ _ _ _ _ _ _ _ _ _ _ _ _ A hL k => lv_lstore_n A.1 A.2.1 hd hi hL hn (by rw [← hl]; exact lset2_cv g.1 l i (.long x)) k) k
theorem E_lstore {i : Nat} {x : Int64} (hd : decode Y.2.1 pc = .ok (.lstore i, 2)) (hn : i + 1 < Y.2.2.1) (hl : lset2 l i (.long x) = l') (k : Eg Y d kc ks res (pc + 2) l' st u) : Eg Y d kc ks res pc l (.long x :: st) u := Eg.steps (fun g _ _ _ _ _ _ _ _ _ _ _ _ _ _ _ _ A hL k => lv_lstore A.1 A.2.1 hd hL hn (by rw [← hl]; exact lset2_cv g.1 l i (.long x)) k) k
theorem E_astore_n {n : Fin 4} {i x : Nat} (hd : decode Y.2.1 pc = .ok (.astore_n n, 1)) (hi : (n : Nat) = i) (hn : i < Y.2.2.1) (hl : lset l i (.ref x) = l') (k : Eg Y d kc ks res (pc + 1) l' st u) : Eg Y d kc ks res pc l (.ref x :: st) u := Eg.steps (fun g _ _ _ _ _ _ _ _ _ _ _ _ _ _ _ _ A hL k => lv_astore_n A.1 A.2.1 hd hi hL hn (by rw [← hl]; exact lset_cv g.1 l i (.ref x)) k) k
theorem E_astore {i x : Nat} (hd : decode Y.2.1 pc = .ok (.astore i, 2)) (hn : i < Y.2.2.1) (hl : lset l i (.ref x) = l') (k : Eg Y d kc ks res (pc + 2) l' st u) : Eg Y d kc ks res pc l (.ref x :: st) u := Eg.steps (fun g _ _ _ _ _ _ _ _ _ _ _ _ _ _ _ _ A hL k => lv_astore A.1 A.2.1 hd hL hn (by rw [← hl]; exact lset_cv g.1 l i (.ref x)) k) k
theorem E_iinc {i j : Nat} {n : Int} {x v : Int32} (hd : decode Y.2.1 pc = .ok (.iinc i n, 3)) (hk : l[j]? = some (i, .int x)) (hv : x + Int32.ofInt n = v) (hn : i < Y.2.2.1) (hl : lset l i (.int v) = l') (k : Eg Y d kc ks res (pc + 3) l' st u) : Eg Y d kc ks res pc l st u := Eg.steps (fun g _ _ _ _ _ _ _ _ _ _ _ _ _ _ _ _ A hL k => lv_iinc A.1 A.2.1 hd hL (k := j) (by rw [List.getElem?_map, hk]; rfl) hv hn (by rw [← hl]; exact lset_cv g.1 l i (.int v)) k) k
end EROWS
