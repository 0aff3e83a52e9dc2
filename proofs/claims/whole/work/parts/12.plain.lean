/-! ===== a method of java.lang.Math that no entry runs instead ===== -/
theorem Met.ofWF {l : Launch} {y : MethodName} {ws ws' : List Cond} {rm : Room} {Pc : Array Value → State → Prop} {Qc : Array Value → State → Outcome → State → Prop} {mc ms : Nat} {free : Addr → Prop} {cc : ByteArray} {maxL : Nat} {ret : Option FieldType}
    (hy : plainFor y = true) (hw : ws = Cond.code y cc maxL ret :: ws')
    (body : ∀ p e s m args below meth c s₁, BodyLoose p l y (headSpec ws rm) cc maxL ret e s m args below meth c s₁ → c.maxLocals = maxL → Pc args s →
      W p l e (headSpec ws rm).room s m args below meth c s.heap [] 0 0 (MQ below Qc args s mc ms free) (entryFrame m args maxL)) : Met l y ws rm Pc Qc mc ms free := by
  refine MetFree.of_bodySF (code := cc) (maxLocals := maxL) (ret := ret) hy ?_ ?_
  · intro args s m h hn
    obtain ⟨meth, c, h1, h2, h3, h4, h5, h6, -, -⟩ := Cond.code_spec hn (atoms_spec (ws := ws) h _ (by rw [hw]; exact List.mem_cons_self))
    exact ⟨meth, c, h1, h2, h3, h4, h5, h6⟩
  · intro p e s m args below meth c s₁ B hml hP _
    have hh0 : s₁.heap = s.heap := by rw [B.state]; rfl
    obtain ⟨t, a1, o, b1, b2, b3⟩ := body p e s m args below meth c s₁ B hml hP s₁ hh0 (Stand.of_body B)
    exact ⟨t, o, a1, b1, b2, ⟨b3.1, b3.2⟩⟩
theorem Ev.ofF {d mc ms : Nat} {Y : MI} {as : List Value} {u : Mm} {res : Option Value × Mm} (hy : plainFor Y.1 = true) (hn : (lg_sl as).length ≤ Y.2.2.1) (h : Eg Y d mc ms res 0 (lv_args 0 as) [] u) : Ev d Y mc ms as u res := by
  intro g lch
  refine Met.ofWF (cc := Y.2.1) (maxL := Y.2.2.1) (ret := Y.2.2.2) (ws' := UW) hy rfl ?_
  intro p e s m args below meth c s₁ B hml hv
  obtain ⟨rfl, hR, hK⟩ := hv
  have hts := atoms_spec (ws := hWs Y) B.pre
  have hl := lv_entry (as.map (cv g.1)) (n := Y.2.2.1) (by rw [cv_lg]; exact hn)
  rw [lg_entry_eq]
  generalize (lg_sl (as.map (cv g.1)) ++ List.replicate (Y.2.2.1 - (lg_sl (as.map (cv g.1))).length) Slot.unset).toArray = ls at hl ⊢
  rw [cv_args] at hl
  have hw := h g p lch e (headSpec (hWs Y) { frames := d, cells := mc, slots := ms, locals := 64 * d }).room s m (as.map (cv g.1)).toArray below meth c s.heap [] 0 0 ls ⟨B.exec, B.bytes, hml, B.returns, B.notSynchronized, (name_of_methodNamed B.named B.method).1, findClass_of_methodNamed B.named, fun w hw => hts w (List.mem_cons_of_mem _ hw), hK⟩ (Nat.le_refl _) (Nat.le_refl _) (by rw [Nat.zero_add]; exact Nat.le_refl _) (by rw [Nat.zero_add]; exact Nat.le_refl _) ⟨hR, fun _ _ => rfl, fun _ h => by cases h⟩ hl
  rw [Nat.zero_add, Nat.zero_add] at hw
  exact hw
