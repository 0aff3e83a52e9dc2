/-! ===== attack ===== -/
def winsG (g : Nat → Int32) (s k : Nat) : Bool := decide (g (8 + 8 * (1 - s) + k) < g (8 + 8 * s + k))
def goesG (g : Nat → Int32) (s k : Nat) : Bool := winsG g s k && decide ((s = 0 ∧ g k < 3) ∨ (s = 1 ∧ -3 < g k))
set_option maxRecDepth 100000 in
theorem winsGB {g row : Nat → Int32} {s k : Nat} (h : FR g row) (hs : s < 2) (hk : k < 8) : winsG g s k = winsB row s k := by
  have e2 : ∀ l, l < 2 → g (8 + 8 * l + k) = row (15 + 8 * l + k) := fun l hl => by rw [h.1 _ (by omega)]; congr 1; omega
  unfold winsG winsB
  rw [e2 s hs, e2 (1 - s) (by omega)]
set_option maxRecDepth 100000 in
theorem goesGB {g row : Nat → Int32} {s k : Nat} (h : FR g row) (hs : s < 2) (hk : k < 8) : goesG g s k = goesB row s k := by
  unfold goesG goesB
  rw [winsGB h hs hk, h.1 k (by omega)]
section
variable {f : Nat} {c m : Mm} {q : Option Nat} {s k : Nat}
set_option maxRecDepth 100000 in
theorem c_atk (hS : hSh c) (hF : Fr c f) (hs : s < 2) (hk : k < 8) {v : Int32} : oR c f 1 (oB (fX1_supplyOf c f (nI s)) (fun v16 u17 => oR u17 f 1 (oB (fX1_setSupply u17 f (nI s) (v16 - v)) (fun _ u18 => oR u18 f 1 (oB (fX1_isStronger u18 f (nI s) (nI k)) (fun v19 u20 => (if (v19 : Int32) = 0 then bX7_doAttack_106 u20 f (nI s) (nI k) v19 else oR u20 f 1 (oB (fX1_canGoOn u20 f (nI s) (nI k)) (fun v27 u28 => (if (v27 : Int32) = 0 then bX7_doAttack_106 u28 f (nI s) (nI k) v19 else bX7_doAttack_107 u28 f (nI s) (nI k) v19 1))))))))))
    = some (if goesG (mI c (f + 1)) s k then 1 else 0, wI c (f + 1) (upd (upd (upd (mI c (f + 1)) (24 + s) (imin (mI c (f + 1) (24 + s) - v) 999)) (8 + 8 * (if winsG (mI c (f + 1)) s k then 1 - s else s) + k) (mI c (f + 1) (8 + 8 * (if winsG (mI c (f + 1)) s k then 1 - s else s) + k) - mI c (f + 1) (8 + 8 * (if winsG (mI c (f + 1)) s k then 1 - s else s) + k) / 2)) k (mI c (f + 1) k + (if goesG (mI c (f + 1)) s k then (if s = 0 then 1 else -1) else 0)))) := by
  have w1 : ∀ g, Fr (wI c (f + 1) g) f := fun _ => hF
  have e2 : ∀ g, mI (wI c (f + 1) g) (f + 1) = g := fun g => by rw [mI_wI, if_pos rfl]
  have tail : ∀ (l : Nat) (go : Bool) (g : Nat → Int32), l < 2 → bX7_doAttack_121 (wI c (f + 1) g) f (nI s) (nI k) (if go then 1 else 0) (nI l) = some (if go then 1 else 0, wI c (f + 1) (upd (upd g (8 + 8 * l + k) (g (8 + 8 * l + k) - g (8 + 8 * l + k) / 2)) k (g k + (if go then (if s = 0 then 1 else -1) else 0)))) := by
    intro l go g hl
    unfold bX7_doAttack_121 bX7_doAttack_167 bX7_doAttack_171 bX7_doAttack_181
    rw [oR_of (w1 _).1, c_menAt (w1 _) hl hk, oB_of, if_pos (by decide), oR_of (w1 _).1, c_setMen (w1 _) hl hk, oB_of, wI_s, e2]
    cases go with
    | false =>
      rw [if_pos (by decide), if_pos (by decide)]
      congr 2
      rw [if_neg (by decide), Int32.add_zero, upd_id (pk_un (by omega))]
    | true =>
      rw [if_neg (by decide), oR_of (w1 _).1, c_lineAt (w1 _) hk, oB_of, e2, pk_un (by omega)]
      rcases (by omega : s = 0 ∨ s = 1) with z | z
      · subst z
        rw [if_pos (show nI 0 = 0 from rfl), oR_of (w1 _).1, c_setLine (w1 _) hk, oB_of, wI_s, e2, if_neg (by decide)]; rfl
      · subst z
        rw [if_neg (by decide), oR_of (w1 _).1, c_setLine (w1 _) hk, oB_of, wI_s, e2, if_neg (by decide)]; rfl
  rw [oR_of hF.1, c_supplyOf hF hs, oB_of, oR_of hF.1, c_setSupply hF hs, oB_of, oR_of (w1 _).1, c_isStronger (w1 _) hs hk, oB_of, e2]
  have r3 : ∀ (x : Int32) (l : Nat), l < 2 → upd (mI c (f + 1)) (24 + s) x (8 + 8 * l + k) = mI c (f + 1) (8 + 8 * l + k) := fun x l hl => pk_un (by omega)
  rw [r3 _ s hs, r3 _ (1 - s) (by omega)]
  unfold bX7_doAttack_106 bX7_doAttack_107
  by_cases z : mI c (f + 1) (8 + 8 * (1 - s) + k) < mI c (f + 1) (8 + 8 * s + k)
  · have ew : winsG (mI c (f + 1)) s k = true := decide_eq_true z
    rw [if_pos z, if_neg (by decide), oR_of (w1 _).1, c_canGoOn (w1 _) hs hk, oB_of, e2, pk_un (show k ≠ 24 + s by omega), i1s hs]
    by_cases z2 : (s = 0 ∧ mI c (f + 1) k < 3) ∨ (s = 1 ∧ -3 < mI c (f + 1) k)
    · have eg : goesG (mI c (f + 1)) s k = true := by unfold goesG; rw [ew, decide_eq_true z2]; rfl
      rw [if_pos z2, if_neg (by decide), if_neg (by decide), ew, eg]
      have t := tail (1 - s) true (upd (mI c (f + 1)) (24 + s) (imin (mI c (f + 1) (24 + s) - v) 999)) (by omega)
      rw [r3 _ _ (by omega), pk_un (show k ≠ 24 + s by omega)] at t
      exact t
    · have eg : goesG (mI c (f + 1)) s k = false := by unfold goesG; rw [ew, decide_eq_false z2]; rfl
      rw [if_neg z2, if_pos rfl, if_neg (by decide), ew, eg]
      have t := tail (1 - s) false (upd (mI c (f + 1)) (24 + s) (imin (mI c (f + 1) (24 + s) - v) 999)) (by omega)
      rw [r3 _ _ (by omega), pk_un (show k ≠ 24 + s by omega)] at t
      exact t
  · have ew : winsG (mI c (f + 1)) s k = false := decide_eq_false z
    have eg : goesG (mI c (f + 1)) s k = false := by unfold goesG; rw [ew]; rfl
    rw [if_neg z, if_pos rfl, if_pos rfl, ew, eg]
    have t := tail s false (upd (mI c (f + 1)) (24 + s) (imin (mI c (f + 1) (24 + s) - v) 999)) hs
    rw [r3 _ _ hs, pk_un (show k ≠ 24 + s by omega)] at t
    exact t
set_option maxRecDepth 100000 in
/-- an attack of both: it can't be; or it can, and (whatever is remembered ahead of it) it comes to the same -/
theorem J_attack (hB : JB f c m) (hL : JL c m q) (hQ : JQ c q) (hs : s < 2) (hk : k < 8) :
    (∃ c' m', fX7_doAttack c 13 f (nI s) (nI k) = some (-3, c') ∧ CsF c c' ∧ fX9_canAttack m 45 (nI s) (nI k) = some (0, m') ∧ MF m m')
    ∨ (∃ w c' m', w ≤ 1 ∧ fX7_doAttack c 13 f (nI s) (nI k) = some (nI w, c') ∧ AF f c c' ∧ fX9_canAttack m 45 (nI s) (nI k) = some (1, m') ∧ MF m m' ∧ ∀ m2, JB f c m2 → JL c m2 q → mI m2 47 = mI m 47 → ∃ m3, fX9_attackIt m2 45 (nI s) (nI k) = some (nI w, m3) ∧ AM m2 m3 ∧ JB f c' m3) := by
  have h1 := hB.1
  have h2 := hB.2.1
  have hF := hB.2.2.1
  have hR : Rrg (mI m 47) := hB.2.2.2.2.2.2.2.2.2.2
  obtain ⟨b, c1, m1, a1, a2, a3, a4⟩ := J_barred hB hL hQ hs hk
  have hB1 := JB_fr hB a3 a4
  have hL1 := JL_fr hL a3 a4
  have hQ1 := JQ_fr hQ a3
  obtain ⟨v, c2, m2, d1, d2, d3, d4, d5⟩ := J_cost hB1 hL1 hs hk
  have hcan := m_can h2 hs hk a2 a4 d2 d4
  have hc1 := CsF_hSh a3 h1
  have hc2 := CsF_hSh d3 hc1
  have hF1 : Fr c1 f := hB1.2.2.1
  have hB2 := JB_fr hB1 d3 d4
  have hF2 : Fr c2 f := hB2.2.2.1
  have em := JB_men hB hs hk
  have r1 := rr hR (i := 15 + 8 * s + k) (by omega) (rl_men s hs k hk)
  have k0 : (0 : Int32).toInt = 0 := by decide
  have mfx : MF m (if b = true then m1 else m2) := by
    split
    · exact a4
    · exact MF_trans a4 d4
  have c0 : oB (fX8_isSide c (nI s)) = oB (some ((1 : Int32), c)) (ρ := Int32 × Mm) := by
    rw [c_isSide, if_pos ⟨nI_pos' (by omega), nI_le (b := 1) (by omega) (by decide)⟩]
  have c00 : ∀ {F : Int32 → Mm → Option (Int32 × Mm)}, oB (fX8_isColumn c (nI k)) F = F 1 c := by
    intro F
    rw [c_isColumn, if_pos ⟨nI_pos' (by omega), nI_le (b := 7) (by omega) (by decide)⟩, oB_of]
  by_cases z0 : mI m 47 (15 + 8 * s + k) = 0
  · refine Or.inl ⟨c, _, ?_, CsF_rfl, ?_, mfx⟩
    · unfold fX7_doAttack
      rw [c0, oB_of, if_neg (by decide), c00, if_neg (by decide), oR_of hF.1, c_menAt hF hs hk, oB_of, em, if_pos z0]
    · rw [hcan, if_neg (fun z => by rw [z0] at z; exact absurd z.2.2 (by decide))]
  · have zp : 0 < mI m 47 (15 + 8 * s + k) := by
      rw [Int32.lt_iff_toInt_lt, k0]
      have : (mI m 47 (15 + 8 * s + k)).toInt ≠ 0 := fun e => z0 (Int32.toInt_inj.mp (e.trans k0.symm))
      omega
    cases b with
    | true =>
      refine Or.inl ⟨c1, _, ?_, a3, ?_, mfx⟩
      · unfold fX7_doAttack
        rw [c0, oB_of, if_neg (by decide), c00, if_neg (by decide), oR_of hF.1, c_menAt hF hs hk, oB_of, em, if_neg z0, oR_of (sh13 h1), a1, oB_of, if_neg (by decide)]
      · rw [hcan, if_neg (fun z => by cases z.1)]
    | false =>
      have pre : ∀ {X : Option (Int32 × Mm)}, (oR c2 f 1 (oB (fX1_supplyOf c2 f (nI s)) (fun v14 u15 => (if v ≤ v14 then oR u15 f 1 (oB (fX1_supplyOf u15 f (nI s)) (fun v16 u17 => oR u17 f 1 (oB (fX1_setSupply u17 f (nI s) (v16 - v)) (fun _ u18 => oR u18 f 1 (oB (fX1_isStronger u18 f (nI s) (nI k)) (fun v19 u20 => (if (v19 : Int32) = 0 then bX7_doAttack_106 u20 f (nI s) (nI k) v19 else oR u20 f 1 (oB (fX1_canGoOn u20 f (nI s) (nI k)) (fun v27 u28 => (if (v27 : Int32) = 0 then bX7_doAttack_106 u28 f (nI s) (nI k) v19 else bX7_doAttack_107 u28 f (nI s) (nI k) v19 1)))))))))) else some ((-3), u15)))) = X) → fX7_doAttack c 13 f (nI s) (nI k) = X := by
        intro X hX
        unfold fX7_doAttack
        rw [c0, oB_of, if_neg (by decide), c00, if_neg (by decide), oR_of hF.1, c_menAt hF hs hk, oB_of, em, if_neg z0, oR_of (sh13 h1), a1, oB_of, if_pos (by decide), oK_of (sh13 hc1), rf13_0 hc1, oNn_of, oR_of (sh1 hc1), c_lif hc1 hQ1, oB_of, oR_of (sh13 hc1), d1, oB_of]
        exact hX
      have es : mI c2 (f + 1) (24 + s) = mI m 47 (31 + s) := by
        rw [JB_sup hB2 hs, d4.2.2.2.1 47 (by decide), a4.2.2.2.1 47 (by decide)]
      by_cases zc : v ≤ mI m 47 (31 + s)
      · have hFR : FR (mI c2 (f + 1)) (mI m 47) := by
          have := JB_FR hB2
          rw [d4.2.2.2.1 47 (by decide), a4.2.2.2.1 47 (by decide)] at this
          exact this
        have r2 := rr hR (i := 31 + s) (by omega) (rl_sup s hs)
        have d5' := d5
        unfold rg at d5'
        have ei : imin (mI c2 (f + 1) (24 + s) - v) 999 = mI c2 (f + 1) (24 + s) - v := by
          refine iminS (h := ?_)
          rw [Int32.le_iff_toInt_le, es, subI (by omega) (by omega), show (999 : Int32).toInt = 999 from by decide]
          omega
        refine Or.inr ⟨if goesB (mI m 47) s k then 1 else 0, wI c2 (f + 1) (atG (mI c2 (f + 1)) s k v (winsB (mI m 47) s k) (goesB (mI m 47) s k)), _, by split <;> omega, pre ?_, AF_trans (AF_trans (AF_CsF a3) (AF_CsF d3)) AF_w, ?_, mfx, ?_⟩
        · rw [oR_of hF2.1, c_supplyOf hF2 hs, oB_of, es, if_pos zc, c_atk hc2 hF2 hs hk, ei, winsGB hFR hs hk, goesGB hFR hs hk]
          unfold atG
          cases goesB (mI m 47) s k <;> rfl
        · rw [hcan, if_pos ⟨rfl, zc, zp⟩]
        · intro m2' hB' hL' e47
          have hBc := JB_fr hB' a3 (MF_rfl)
          have hLc := JL_fr hL' a3 (MF_rfl)
          obtain ⟨v', c3, m3, x1, x2, x3, x4, x5⟩ := J_cost hBc hLc hs hk
          have ev : v' = v ∧ c3 = c2 := by
            have := x1.symm.trans d1
            simp only [Option.some.injEq, Prod.mk.injEq] at this
            exact this
          obtain ⟨rfl, rfl⟩ := ev
          have hit := m_attackIt hB'.2.1 hs hk x2 x4
          rw [e47] at hit
          refine ⟨_, ?_, AM_trans (AM_MF x4) (AM_w (r := atR (mI m 47) s k v' (winsB (mI m 47) s k) (goesB (mI m 47) s k)) (fun i hi => by rw [atR_nf hs hk i hi, x4.2.2.2.1 47 (by decide), e47])), ?_⟩
          · rw [hit]
            cases goesB (mI m 47) s k <;> rfl
          · refine JB_put (JB_fr hBc x3 x4) (atG_FR hFR hs hk) (fun i hi => by rw [atR_nf hs hk i hi, x4.2.2.2.1 47 (by decide), e47]) (atR_Rrg hR hs hk d5 zc)
      · refine Or.inl ⟨c2, _, pre ?_, CsF_trans a3 d3, ?_, mfx⟩
        · rw [oR_of hF2.1, c_supplyOf hF2 hs, oB_of, es, if_neg zc]
        · rw [hcan, if_neg (fun z => zc z.2.1)]
end
