/-! ===== the call decades ===== -/
def dwF (dr row : Nat → Int32) (n : Nat) : Nat → Int32 := fun i => if i < n then row (4 + i) else dr i
set_option maxRecDepth 100000 in
theorem dwF_upd (dr row : Nat → Int32) (n : Nat) : upd (dwF dr row n) n (row (4 + n)) = dwF dr row (n + 1) := by
  funext j
  unfold dwF
  by_cases c : j = n
  · subst c; rw [pk_us, if_pos (by omega)]
  · rw [pk_un c]
    by_cases d : j < n
    · rw [if_pos d, if_pos (by omega)]
    · rw [if_neg d, if_neg (by omega)]
set_option maxRecDepth 100000 in
theorem dwF0 (dr row : Nat → Int32) : dwF dr row 0 = dr := by funext j; unfold dwF; rw [if_neg (by omega)]
set_option maxRecDepth 100000 in
theorem m_dec147 {m : Mm} (hS : hSh m) {v : Nat} (hv : v < 1000) {N : Nat} {dr : Nat → Int32} : ∀ (r k : Nat), k + r = 31 → rX9_decades_147 (N + r + 1) (wI m 70 (dwF dr (mI m 47) k)) 45 (nI v) (nI k) = some (nI v, wI (wI (wI (wI m 70 (dwF dr (mI m 47) 31)) 45 (upd (mI m 45) 53 1)) 47 (pF (mI m 47) (fun i => mI m 50 (31 * 16 + i)) 31)) 45 (upd (upd (mI m 45) 53 1) 1 0)) := by
  intro r
  induction r with
  | zero =>
    intro k hk
    have e : k = 31 := by omega
    subst e
    have h1 : hSh (wI m 70 (dwF dr (mI m 47) 31)) := hS
    have h2 : ∀ f, hSh (wI (wI m 70 (dwF dr (mI m 47) 31)) 45 f) := fun _ => hS
    have h3 : ∀ f g, hSh (wI (wI (wI m 70 (dwF dr (mI m 47) 31)) 45 f) 47 g) := fun _ _ => hS
    show bX9_decades_147 _ _ 45 (nI v) (nI 31) = _
    unfold bX9_decades_147
    rw [if_pos (by decide), oK_of (sh45 h1), oZ1, oU_of, oR_of (sh45 (h2 _)), show (16 : Int32) = nI 16 from rfl, m_putBack (h2 _) (by decide), oB_of, oR_of (sh45 (h3 _ _)), m_accept (h3 _ _) _ (nI_pos' (by omega)), oB_of]
    rfl
  | succ r ih =>
    intro k hk
    have h1 : hSh (wI m 70 (dwF dr (mI m 47) k)) := hS
    show bX9_decades_147 (rX9_decades_147 (N + r + 1)) _ 45 (nI v) (nI k) = _
    unfold bX9_decades_147
    rw [if_neg (show ¬ (31 : Int32) ≤ nI k from nI_ge (b := 31) (by omega) (by decide)), oK_of (sh45 h1), rf45_52 h1, oNn_of, oK_of (sh45 h1), rf45_3 h1, oNn_of, ix4, oA_k (sh47 h1) (by omega) (by decide), oI_of, clm (by omega), oA_k (sh70 h1) (by omega) (by decide), oU_of, clm (by omega), wI_s, nI_1]
    show rX9_decades_147 _ (wI m 70 (upd (dwF dr (mI m 47) k) k (mI m 47 (4 + k)))) 45 (nI v) _ = _
    rw [dwF_upd]
    exact ih (k + 1) (by omega)
set_option maxRecDepth 100000 in
theorem s36 : hwS_36 (Rel LR) := by
  intro x y u h
  have hS := h.1
  by_cases cx : 0 ≤ x ∧ x ≤ 1000000
  · by_cases cy : 1 ≤ y ∧ y ≤ 60
    · obtain ⟨s, hs, rfl⟩ := nIof (n := 1000000) 1000000 (by decide) cx
      obtain ⟨n, hn, en⟩ := nIof (n := 60) 60 (by decide) (x := y) ⟨Int32.le_trans (by decide) cy.1, cy.2⟩
      subst en
      obtain ⟨q, hB, hL, hQ⟩ := Rel_J h
      -- the class's front on paper
      have hc1 : hSh (wI (wI u 41 (va_cpy (mI u 3) (mI u 41) 0 0 29)) 0 (upd (mI u 0) 10 1)) := hS
      have ic1 : ∀ a, a ≠ 0 → a ≠ 41 → mI (wI (wI u 41 (va_cpy (mI u 3) (mI u 41) 0 0 29)) 0 (upd (mI u 0) 10 1)) a = mI u a := fun a h0 h1 => by rw [mI_wI, if_neg h0, mI_wI, if_neg h1]
      have hQ1 : JQ (wI (wI u 41 (va_cpy (mI u 3) (mI u 41) 0 0 29)) 0 (upd (mI u 0) 10 1)) q := hQ
      have jb : ∀ m, JB 2 u m → JL u m q → JB 40 (wI (wI u 41 (va_cpy (mI u 3) (mI u 41) 0 0 29)) 0 (upd (mI u 0) 10 1)) m ∧ JL (wI (wI u 41 (va_cpy (mI u 3) (mI u 41) 0 0 29)) 0 (upd (mI u 0) 10 1)) m q := by
        intro m hB hL
        obtain ⟨b1, b2, b3, b4, b5, b6, b7, b8, b9, b10, b11⟩ := hB
        refine ⟨⟨hc1, b2, Fr40 hc1, Or.inr rfl, b5, fun i hi => ?_, ?_, b8, b9, b10, b11⟩, ?_⟩
        · show va_cpy (mI u 3) (mI u 41) 0 0 29 i = _
          rw [cpy29 (by omega)]; exact b6 i hi
        · show va_cpy (mI u 3) (mI u 41) 0 0 29 28 = _
          rw [cpy29 (by omega)]; exact b7
        · rcases hL with hL | ⟨i, t, A, l1, l2, l3, l4, l5, l6, l7⟩
          · exact Or.inl hL
          · exact Or.inr ⟨i, t, A, l1, l2, l3, l4, CLaw_at l5 (fun a a1 a2 => ⟨rfl, rfl, ic1 a (by omega) (by omega)⟩), l6, l7⟩
      have hn1 : 1 ≤ n := by
        have := Int32.le_iff_toInt_le.mp cy.1
        rw [nI_toInt (by omega)] at this
        have k1 : (1 : Int32).toInt = 1 := by decide
        omega
      -- a first time, for what the class comes to
      have ref0 : ∀ v : Mm, hSh v → mI v 47 = mI u 47 → mI v 45 20 = 0 → ∃ w c' m', w ≤ 60 ∧ fX7_runDecades (wI (wI u 41 (va_cpy (mI u 3) (mI u 41) 0 0 29)) 0 (upd (mI u 0) 10 1)) 13 40 (nI s) (nI n) = some (nI w, c') ∧ rX9_decades_52 hwF (wL (wI (mT v) 50 (kF (mI v 50) (mI u 47) 16 31)) 45 (vp_updL (mL v 45) 51 (w64 s))) 45 (nI n) 0 0 = bX9_decades_144 m' 45 (nI w) ∧ AF 40 (wI (wI u 41 (va_cpy (mI u 3) (mI u 41) 0 0 29)) 0 (upd (mI u 0) 10 1)) c' ∧ DM (wL (wI (mT v) 50 (kF (mI v 50) (mI u 47) 16 31)) 45 (vp_updL (mL v 45) 51 (w64 s))) m' ∧ JB 40 c' m' := by
        intro v hv e47 e20
        obtain ⟨B1, L1⟩ := jb (wL (wI (mT v) 50 (kF (mI v 50) (mI u 47) 16 31)) 45 (vp_updL (mL v 45) 51 (w64 s))) (JB_m hB hv e47 (e20.trans hB.2.2.2.2.1.symm)) (JL_m hL e47)
        obtain ⟨w, c', m', b1, b2, b3, b4, b5, b6⟩ := J_decgo (q := q) (n := n) hn (999999 - n) (999999 - n) n 0 s 0 _ _ (by omega) (by omega) (by omega) wL51 B1 L1 hQ1
        rw [show 999999 - n + n + 1 = hwF by unfold hwF; omega] at b2 b3
        exact ⟨w, c', m', b1, b2, b3, b4, b5, b6⟩
      obtain ⟨w0, c0, m0, g1, g2, -, g4, -, -⟩ := ref0 u hS rfl hB.2.2.2.2.1
      have hc0 : hSh c0 := AF_hSh g4 hc1
      have ic : ∀ a, a ≠ 0 → a ≠ 41 → a ≠ 16 → mI c0 a = mI u a := fun a h0 h1 h2 => by rw [g4.2.2.2 a h2 h1, ic1 a h0 h1]
      have hv : hSh (wI c0 0 (upd (mI c0 0) 18 0)) := hc0
      have iv : ∀ a, a ≠ 0 → mI (wI c0 0 (upd (mI c0 0) 18 0)) a = mI c0 a := fun a h0 => by rw [mI_wI, if_neg h0]
      have v47 : mI (wI c0 0 (upd (mI c0 0) 18 0)) 47 = mI u 47 := (iv 47 (by decide)).trans (ic 47 (by decide) (by decide) (by decide))
      have v45 : mI (wI c0 0 (upd (mI c0 0) 18 0)) 45 = mI u 45 := (iv 45 (by decide)).trans (ic 45 (by decide) (by decide) (by decide))
      obtain ⟨w, c', m', d1, d2, d3, d4, d5, d6⟩ := ref0 (wI c0 0 (upd (mI c0 0) 18 0)) hv v47 (by rw [v45]; exact hB.2.2.2.2.1)
      obtain ⟨x1, x2⟩ := some2 d2 g2
      have ew : w = w0 := (nI_eq (by omega) (by omega)).mp x1
      subst ew x2
      have hm' := d6.2.1
      have fin := m_dec147 hm' (v := w) (by omega) (N := 999968) (dr := mI m' 70) 31 0 (by decide)
      rw [dwF0, wI_id] at fin
      -- the row is as it was
      have r50 : ∀ i, i < 31 → mI m' 50 (31 * 16 + i) = mI u 47 (4 + i) := by
        intro i hi
        rw [d5.2.2.2.1 50 (by decide) (by decide)]
        show kF _ (mI u 47) 16 31 (31 * 16 + i) = _
        rw [kF_at hi]
      have erow : pF (mI m' 47) (fun i => mI m' 50 (31 * 16 + i)) 31 = mI u 47 := by
        funext i
        unfold pF
        by_cases z : 4 ≤ i ∧ i < 4 + 31
        · rw [if_pos z]; refine (r50 (i - 4) (by omega)).trans ?_; congr 1; omega
        · rw [if_neg z, d5.2.2.2.2.1 i (by unfold fP; omega)]
          exact congrFun v47 i
      rw [erow] at fin
      refine ⟨nI w, wI c' 0 (upd (mI c' 0) 18 0), wI (wI (wI (wI m' 70 (dwF (mI m' 70) (mI m' 47) 31)) 45 (upd (mI m' 45) 53 1)) 47 (mI u 47)) 45 (upd (upd (mI m' 45) 53 1) 1 0), ?_, hR45_Rel hv, ?_, ?_⟩
      · show fX8_decades u 0 (nI s) (nI n) = _
        have h2 : ∀ f, hSh (wI u 41 f) := fun _ => hS
        unfold fX8_decades
        rw [c_within, oB_of, if_pos cx, if_neg (by decide), c_within, oB_of, if_pos cy, if_neg (by decide), oK_of (sh0 hS), rf0_9 hS, oNn_of, oK_of (sh0 hS), rf0_0 hS, oNn_of, oK_of (sh1 hS), rf1_0 hS, oNn_of, oR_of (sh40 hS), c_copy (Fr40 hS) (Fr2 hS), oB_of, oK_of (sh0 (h2 _)), oZ1, oU_of]
        have h3 : ∀ f g, hSh (wI (wI u 41 f) 0 g) := fun _ _ => hS
        rw [oK_of (sh0 (h3 _ _)), rf0_1 (h3 _ _), oNn_of, oK_of (sh0 (h3 _ _)), rf0_9 (h3 _ _), oNn_of, oR_of (sh13 (h3 _ _))]
        refine Eq.trans (congrArg (fun z => oB z _) d2) ?_
        rw [oB_of, oR_of (sh0 hc0), c_accept hc0, oB_of]
      · show fX9_decades (wI c' 0 (upd (mI c' 0) 18 0)) 45 (nI s) (nI n) = _
        have hvT : hSh (mT (wI c' 0 (upd (mI c' 0) 18 0))) := hv
        have q1 : ∀ f, hSh (wI (mT (wI c' 0 (upd (mI c' 0) 18 0))) 50 f) := fun _ => hv
        unfold fX9_decades
        rw [oK_of (sh45 hv), oT, m_inI _ (nI s) 0 1000000 (l := 0) (h := 1000000) rfl rfl, oB_of, if_pos cx, if_neg (by decide), m_inI _ (nI n) 1 60 (l := 1) (h := 60) rfl rfl, oB_of, if_pos cy, if_neg (by decide), oR_of (sh45 hvT), show (16 : Int32) = nI 16 from rfl, m_keepAll hvT (by decide), oB_of, oK_of (sh45 (q1 _)), oU_of]
        have e1 : mI (mT (wI c' 0 (upd (mI c' 0) 18 0))) 47 = mI u 47 := v47
        rw [e1]
        refine Eq.trans d3 ?_
        unfold bX9_decades_144
        exact fin
      · -- it holds behind
        have go : ∀ a, a ≠ 0 → a ≠ 45 → a ≠ 47 → a ≠ 50 → a ≠ 70 → a ≠ 41 → a ≠ 16 → mI (wI (wI (wI (wI m' 70 (dwF (mI m' 70) (mI m' 47) 31)) 45 (upd (mI m' 45) 53 1)) 47 (mI u 47)) 45 (upd (upd (mI m' 45) 53 1) 1 0)) a = mI u a := by
          intro a h0 h45 h47 h50 h70 h41 h16
          simp only [mI_wI]
          rw [if_neg h45, if_neg h47, if_neg h45, if_neg h70, d5.2.2.2.1 a h45 h47]
          show (if a = 50 then _ else if a = 45 then _ else mI (wI c' 0 _) a) = _
          rw [if_neg h50, if_neg h45, iv a h0, ic a h0 h41 h16]
        have m45 : ∀ k, k ≠ 0 → k ≠ 34 → k ≠ 38 → mI m' 45 k = mI u 45 k := by
          intro k k0 k1 k2
          rw [d5.2.2.2.2.2 k k1 k2]
          show upd (mI (wI c' 0 (upd (mI c' 0) 18 0)) 45) 0 0 k = _
          rw [pk_un k0, v45]
        have m0 : mI m' 0 = upd (upd (mI u 0) 10 1) 18 0 := by
          rw [d5.2.2.2.1 0 (by decide) (by decide)]
          show upd (mI c' 0) 18 0 = _
          rw [d4.2.2.2 0 (by decide) (by decide)]
          rfl
        have kN : mQ m' = mQ u := d5.1.trans d4.1
        have kK : mK m' = mK u := d5.2.1.trans d4.2.1
        have kR : mR m' = mR u := d5.2.2.1.trans d4.2.2.1
        refine Rel_put LRf_LR h kN kK kR (fun a ha => go a (by omega) (by omega) (by omega) (by omega) (by omega) (by omega) (by omega)) (Rbk_eq h.2.1 (fun j hj => go (1 + j) (by omega) (by omega) (by omega) (by omega) (by omega) (by omega) (by omega)) (fun _ _ => rfl)) rl0 (go 48 (by decide) (by decide) (by decide) (by decide) (by decide) (by decide) (by decide)) (go 49 (by decide) (by decide) (by decide) (by decide) (by decide) (by decide) (by decide)) ?_ ?_ ?_ ?_
        · show Rmi (mI m' 0) (upd (upd (mI m' 45) 53 1) 1 0) _ _
          rw [m0, go 44 (by decide) (by decide) (by decide) (by decide) (by decide) (by decide) (by decide), go 46 (by decide) (by decide) (by decide) (by decide) (by decide) (by decide) (by decide)]
          obtain ⟨r1, r2, r3, r4, r5, r6, r7, r8, r9, r10⟩ := h.2.2.1
          refine ⟨?_, ?_, ?_, rfl, ?_, r6, r7, ?_, rfl, Or.inr rfl⟩
          · show mI u 0 14 = mI m' 45 11
            rw [m45 11 (by decide) (by decide) (by decide)]; exact r1
          · show mI u 0 13 = mI m' 45 18
            rw [m45 18 (by decide) (by decide) (by decide)]; exact r2
          · show mI u 0 15 = mI m' 45 49
            rw [m45 49 (by decide) (by decide) (by decide)]; exact r3
          · show mI u 0 12 = mI m' 45 13
            rw [m45 13 (by decide) (by decide) (by decide)]; exact r5
          · show mI m' 45 20 = 0
            rw [m45 20 (by decide) (by decide) (by decide)]; exact r8
        · rw [go 42 (by decide) (by decide) (by decide) (by decide) (by decide) (by decide) (by decide), go 54 (by decide) (by decide) (by decide) (by decide) (by decide) (by decide) (by decide)]
          exact h.2.2.2.1
        · intro _
          show Rfr (mI m' 41) (dwF (mI m' 70) (mI m' 47) 31)
          have e41 : mI m' 41 = mI c' 41 := by
            rw [d5.2.2.2.1 41 (by decide) (by decide)]
            rfl
          rw [e41]
          have f := JB_FR d6
          refine ⟨fun i hi => ?_, ?_⟩
          · show mI c' (40 + 1) i = _
            rw [f.1 i hi]; unfold dwF; rw [if_pos (by omega)]; congr 1; omega
          · show mI c' (40 + 1) 28 = _
            rw [f.2]; unfold dwF; rw [if_pos (by omega)]
        · rw [go 30 (by decide) (by decide) (by decide) (by decide) (by decide) (by decide) (by decide), go 31 (by decide) (by decide) (by decide) (by decide) (by decide) (by decide) (by decide), go 32 (by decide) (by decide) (by decide) (by decide) (by decide) (by decide) (by decide), go 51 (by decide) (by decide) (by decide) (by decide) (by decide) (by decide) (by decide)]
          show Rpa _ _ _ (upd (upd (mI m' 45) 53 1) 1 0) (mI m' 50) _ (mI u 47)
          refine Rpa_eq h.2.2.2.2.2.1 ?_ (fun i hi => ?_)
          · show mI m' 45 8 = _
            exact m45 8 (by decide) (by decide) (by decide)
          · rw [d5.2.2.2.1 50 (by decide) (by decide)]
            show kF (mI (wI c' 0 (upd (mI c' 0) 18 0)) 50) (mI u 47) 16 31 i = _
            rw [kF_off (by omega), iv 50 (by decide), ic 50 (by decide) (by decide) (by decide)]
    · refine ⟨-1, cRe u (-1) 0, mRe (mT (cRe u (-1) 0)) (-1) 1, ?_, hR45_Rel hS, ?_, Rel_re LRf_LR h (by decide)⟩
      · show fX8_decades u 0 x y = _
        unfold fX8_decades bX8_decades_21
        rw [c_within, oB_of, if_pos cx, if_neg (by decide), c_within, oB_of, if_neg cy, if_pos rfl, oR_of (sh0 hS), c_no hS, oB_of]
      · have hv : hSh (mT (cRe u (-1) 0)) := hS
        show fX9_decades (cRe u (-1) 0) 45 x y = _
        unfold fX9_decades bX9_decades_29
        rw [oK_of (sh45 (show hSh (cRe u (-1) 0) from hS)), oT, m_inI _ x 0 1000000 (l := 0) (h := 1000000) rfl rfl, oB_of, if_pos cx, if_neg (by decide), m_inI _ y 1 60 (l := 1) (h := 60) rfl rfl, oB_of, if_neg cy, if_pos rfl, oR_of (sh45 hv), m_no hv, oB_of]
  · refine ⟨-1, cRe u (-1) 0, mRe (mT (cRe u (-1) 0)) (-1) 1, ?_, hR45_Rel hS, ?_, Rel_re LRf_LR h (by decide)⟩
    · show fX8_decades u 0 x y = _
      unfold fX8_decades bX8_decades_21
      rw [c_within, oB_of, if_neg cx, if_pos rfl, oR_of (sh0 hS), c_no hS, oB_of]
    · have hv : hSh (mT (cRe u (-1) 0)) := hS
      show fX9_decades (cRe u (-1) 0) 45 x y = _
      unfold fX9_decades bX9_decades_29
      rw [oK_of (sh45 (show hSh (cRe u (-1) 0) from hS)), oT, m_inI _ x 0 1000000 (l := 0) (h := 1000000) rfl rfl, oB_of, if_neg cx, if_pos rfl, oR_of (sh45 hv), m_no hv, oB_of]
