/-! ===== decades ===== -/
def w64 (n : Nat) : Int64 := (nI n).toInt64
set_option maxRecDepth 100000 in
theorem w64_toInt {n : Nat} (h : n < 2147483648) : (w64 n).toInt = n := by unfold w64; rw [Int32.toInt_toInt64, nI_toInt h]
set_option maxRecDepth 100000 in
theorem w64_32 (n : Nat) : (w64 n).toInt32 = nI n := Int32.toInt32_toInt64 _
set_option maxRecDepth 100000 in
theorem rem64 {x : Int64} {a d : Nat} {D : Int64} (hx : x.toInt = a) (hD : D.toInt = d) (h0 : 0 < d) (ha : a < 9223372036854775808) (hd : d < 2147483648) : x - x / D * D = w64 (a % d) := by
  apply Int64.toInt_inj.mp
  have key : ∀ q : Nat, q ≤ a → (-9223372036854775808 : Int) ≤ (q : Int) ∧ (q : Int) < 9223372036854775808 := fun q hq => by omega
  have hq : (x / D).toInt = ((a / d : Nat) : Int) := by
    rw [Int64.toInt_div, hx, hD, Int.tdiv_eq_ediv_of_nonneg (by omega), ← Int.natCast_ediv]
    have h1 : a / d ≤ a := Nat.div_le_self _ _
    exact bmod64 (key _ h1).1 (key _ h1).2
  have hm : a / d * d ≤ a := Nat.div_mul_le_self a d
  have hp : (x / D * D).toInt = ((a / d * d : Nat) : Int) := by
    rw [Int64.toInt_mul, hq, hD, ← Int.natCast_mul]
    exact bmod64 (key _ hm).1 (key _ hm).2
  have hr : a % d < d := Nat.mod_lt _ h0
  have e := Nat.div_add_mod a d
  rw [Nat.mul_comm] at e
  rw [Int64.toInt_sub, hx, hp, w64_toInt (by omega)]
  have e2 : ((a : Nat) : Int) - ((a / d * d : Nat) : Int) = ((a % d : Nat) : Int) := by
    generalize a / d * d = t at *
    generalize a % d = v at *
    omega
  have hv : a % d ≤ a := Nat.mod_le _ _
  rw [e2]
  exact bmod64 (key _ hv).1 (key _ hv).2
def nxD (s : Nat) : Nat := (s * 1103 + 12345) % 1000003
set_option maxRecDepth 100000 in
theorem nxD_lt (s : Nat) : nxD s < 1000003 := Nat.mod_lt _ (by decide)
set_option maxRecDepth 100000 in
theorem mulI {s : Nat} (hs : s < 1000003) : (w64 s * 1103 + 12345).toInt = ((s * 1103 + 12345 : Nat) : Int) := by
  have k1 : (1103 : Int64).toInt = 1103 := by decide
  have k2 : (12345 : Int64).toInt = 12345 := by decide
  have e : (w64 s * 1103).toInt = (s : Int) * 1103 := by
    rw [Int64.toInt_mul, w64_toInt (by omega), k1, bmod64 (by omega) (by omega)]
  rw [Int64.toInt_add, e, k2, bmod64 (by omega) (by omega)]
  omega
set_option maxRecDepth 100000 in
theorem c_draw {u : Mm} {s : Nat} (hs : s < 1000003) : fX7_nextDraw u (nI s) = some (nI (nxD s), u) := by
  unfold fX7_nextDraw
  rw [if_pos (by decide)]
  have := rem64 (D := 1000003) (d := 1000003) (mulI hs) rfl (by decide) (by omega) (by decide)
  unfold w64 at this
  rw [this, Int32.toInt32_toInt64]
  rfl
set_option maxRecDepth 100000 in
theorem wL51 {m : Mm} {f : Nat → Int64} {x : Int64} : mL (wL m 45 (vp_updL f 51 x)) 45 51 = x := pk_uLs (f := f) (k := 51) (x := x)
set_option maxRecDepth 100000 in
/-- the reference's draw -/
theorem m_draw {m : Mm} (hS : hSh m) {s k : Nat} (hs : s < 1000003) (hk : 0 < k) (hk2 : k < 100) (e : mL m 45 51 = w64 s) : fX9_draw m 45 (nI k) = some (nI (nxD s % k), wL m 45 (vp_updL (mL m 45) 51 (w64 (nxD s)))) := by
  have h1 : ∀ f, hSh (wL m 45 f) := fun _ => hS
  have r1 := rem64 (D := 1000003) (d := 1000003) (mulI hs) rfl (by decide) (by omega) (by decide)
  have ek : (Int32.toInt64 (nI k)).toInt = k := w64_toInt (n := k) (by omega)
  have kn : Int32.toInt64 (nI k) ≠ 0 := fun q => by rw [q] at ek; have : (0 : Int64).toInt = 0 := by decide
                                                    omega
  have r2 := rem64 (x := w64 (nxD s)) (D := Int32.toInt64 (nI k)) (d := k) (w64_toInt (by have := nxD_lt s; omega)) ek hk (by have := nxD_lt s; omega) (by omega)
  unfold fX9_draw
  rw [oK_of (sh45 hS), oJ_of, e, if_pos (by decide), oK_of (sh45 hS), oU_of, oK_of (sh45 (h1 _)), oJ_of, r1]
  show (if Int32.toInt64 (nI k) ≠ 0 then some (Int64.toInt32 (w64 (nxD s) - w64 (nxD s) / Int32.toInt64 (nI k) * Int32.toInt64 (nI k)), _) else none) = _
  rw [if_pos kn, r2, w64_32]
  rfl
/-- as acts, but for the draws' own number -/
def DM (m m' : Mm) : Prop := mQ m' = mQ m ∧ mK m' = mK m ∧ mR m' = mR m ∧ (∀ a, a ≠ 45 → a ≠ 47 → mI m' a = mI m a) ∧ (∀ i, ¬ fP i → mI m' 47 i = mI m 47 i) ∧ (∀ k, k ≠ 34 → k ≠ 38 → mI m' 45 k = mI m 45 k)
set_option maxRecDepth 100000 in
theorem DM_AM {m m' : Mm} (h : AM m m') : DM m m' := ⟨h.1, h.2.1, h.2.2.1, h.2.2.2.1, h.2.2.2.2.1, h.2.2.2.2.2.1⟩
set_option maxRecDepth 100000 in
theorem DM_wL {m : Mm} {f : Nat → Int64} : DM m (wL m 45 f) := ⟨rfl, rfl, rfl, fun _ _ _ => rfl, fun _ _ => rfl, fun _ _ _ => rfl⟩
set_option maxRecDepth 100000 in
theorem DM_rfl {m : Mm} : DM m m := ⟨rfl, rfl, rfl, fun _ _ _ => rfl, fun _ _ => rfl, fun _ _ _ => rfl⟩
set_option maxRecDepth 100000 in
theorem DM_trans {m n o : Mm} (h : DM m n) (k : DM n o) : DM m o := ⟨k.1.trans h.1, k.2.1.trans h.2.1, k.2.2.1.trans h.2.2.1, fun a h1 h2 => (k.2.2.2.1 a h1 h2).trans (h.2.2.2.1 a h1 h2), fun a h1 => (k.2.2.2.2.1 a h1).trans (h.2.2.2.2.1 a h1), fun a h1 h2 => (k.2.2.2.2.2 a h1 h2).trans (h.2.2.2.2.2 a h1 h2)⟩
set_option maxRecDepth 100000 in
theorem J_atkday {f : Nat} {c m m2 : Mm} {q : Option Nat} {s k : Nat} {x : Int32} (hB : JB f c m) (hL : JL c m q) (hs : s < 2) (hk : k < 8) (h : fX9_attackIt m 45 (nI s) (nI k) = some (x, m2)) : mI m2 47 4 = mI m 47 4 := by
  obtain ⟨vv, c9, m9, t1, t2, t3, t4, t5⟩ := J_cost hB hL hs hk
  have hm := m_attackIt hB.2.1 hs hk t2 t4
  rw [(some2 h hm).2]
  have hl : (if winsB (mI m 47) s k = true then 1 - s else s) < 2 := by split <;> omega
  show atR (mI m 47) s k vv _ _ 4 = mI m 47 4
  unfold atR
  rw [pk_un (by omega), pk_un (by omega), pk_un (by omega)]
set_option maxRecDepth 100000 in
/-- what is drawn is done -/
theorem J_decbody {q : Option Nat} {n k v d a b t S : Nat} {K : Mm → Nat → Nat → Int32 → Int32 → Int32 → Int32 → Option (Int32 × Mm)} {K' : Mm → Nat → Int32 → Int32 → Int32 → Option (Int32 × Mm)} {c m m0 : Mm} (ha : a < 2) (hb : b < 8) (ht : t < 3) (hv : v ≤ k) (hB0 : JB 40 c m0) (hL0 : JL c m0 q) (hQ : JQ c q) (es0 : mL m0 45 51 = w64 S) (dm0 : DM m m0) (ed0 : mI m0 47 4 = nI d)
    (rest : ∀ (v1 : Nat) (c1 m1 : Mm), v1 ≤ k + 1 → JB 40 c1 m1 → JL c1 m1 q → JQ c1 q → mL m1 45 51 = w64 S → mI m1 47 4 = nI d → AF 40 c c1 → DM m m1 → ∃ v' c' m', v' ≤ 60 ∧ bX7_runDecades_105 K c1 13 40 (nI n) (nI v1) (nI S) (nI k) = some (nI v', c') ∧ bX9_decades_134 K' m1 45 (nI n) (nI v1) (nI k) = bX9_decades_144 m' 45 (nI v') ∧ AF 40 c c' ∧ DM m m' ∧ JB 40 c' m') :
    ∃ v' c' m', v' ≤ 60 ∧ (if nI t = 0 then oR c 13 7 (oB (fX7_doAttack c 13 40 (nI a) (nI b)) (fun v16 u17 => (if v16 = 1 then bX7_runDecades_105 K u17 13 40 (nI n) (nI v + 1) (nI S) (nI k) else bX7_runDecades_89 K u17 13 40 (nI n) (nI v) (nI S) (nI k) (nI a) (nI b) (nI t)))) else bX7_runDecades_89 K c 13 40 (nI n) (nI v) (nI S) (nI k) (nI a) (nI b) (nI t)) = some (nI v', c')
    ∧ (if nI t = 0 then oR m0 45 9 (oB (fX9_canAttack m0 45 (nI a) (nI b)) (fun v29 u30 => (if v29 = 0 then bX9_decades_119 K' u30 45 (nI n) (nI v) (nI k) (nI a) (nI b) (nI t) else oR u30 45 9 (oB (fX9_attackIt u30 45 (nI a) (nI b)) (fun v31 u32 => oI (nI v + v31) (fun v33 => bX9_decades_119 K' u32 45 (nI n) v33 (nI k) (nI a) (nI b) (nI t))))))) else bX9_decades_119 K' m0 45 (nI n) (nI v) (nI k) (nI a) (nI b) (nI t)) = bX9_decades_144 m' 45 (nI v') ∧ AF 40 c c' ∧ DM m m' ∧ JB 40 c' m' := by
  have h1 := hB0.1
  rcases (by omega : t = 0 ∨ t = 1 ∨ t = 2) with e3 | e3 | e3
  · subst e3
    rw [if_pos (show nI 0 = 0 from rfl), if_pos (show nI 0 = 0 from rfl), oR_of (sh13 h1), oR_of (sh45 hB0.2.1)]
    rcases J_attack hB0 hL0 hQ ha hb with ⟨c1, m1, a1, a2, a3, a4⟩ | ⟨w, c1, m1, a0, a1, a2, a3, a4, a5⟩
    · obtain ⟨v', c', m', b1, b2, b3, b4, b5, b6⟩ := rest v c1 m1 (by omega) (JB_fr hB0 a2 a4) (JL_fr hL0 a2 a4) (JQ_fr hQ a2) (by rw [a4.2.2.2.2.2.2 51 (by decide) (by decide)]; exact es0) (by rw [a4.2.2.2.1 47 (by decide)]; exact ed0) (AF_CsF a2) (DM_trans dm0 (DM_AM (AM_MF a4)))
      refine ⟨v', c', m', b1, ?_, ?_, b4, b5, b6⟩
      · rw [a1, oB_of, if_neg (by decide)]
        unfold bX7_runDecades_89
        rw [if_neg (by decide)]
        exact b2
      · rw [a3, oB_of, if_pos rfl]
        unfold bX9_decades_119
        rw [if_neg (by decide)]
        exact b3
    · have B1 := JB_fr hB0 CsF_rfl a4
      have L1 := JL_fr hL0 CsF_rfl a4
      obtain ⟨m2, g1, g2, g3⟩ := a5 m1 B1 L1 (a4.2.2.2.1 47 (by decide))
      have ed2 : mI m2 47 4 = nI d := (J_atkday B1 L1 ha hb g1).trans (by rw [a4.2.2.2.1 47 (by decide)]; exact ed0)
      have hw : w = 0 ∨ w = 1 := by omega
      obtain ⟨v', c', m', b1, b2, b3, b4, b5, b6⟩ := rest (v + w) c1 m2 (by omega) g3 (JL_act (Or.inr rfl) L1 a2 g2) (JQ_act (Or.inr rfl) hQ a2) (by rw [g2.2.2.2.2.2.2 51 (by decide) (by decide), a4.2.2.2.2.2.2 51 (by decide) (by decide)]; exact es0) ed2 a2 (DM_trans dm0 (DM_trans (DM_AM (AM_MF a4)) (DM_AM g2)))
      refine ⟨v', c', m', b1, ?_, ?_, b4, b5, b6⟩
      · rw [a1, oB_of]
        rcases hw with hw | hw
        · subst hw
          rw [if_neg (by decide)]
          unfold bX7_runDecades_89
          rw [if_neg (by decide)]
          exact b2
        · subst hw
          rw [if_pos (show nI 1 = 1 from rfl), nI_1]
          exact b2
      · rw [a3, oB_of, if_neg (by decide), oR_of (sh45 B1.2.1), g1, oB_of, oI_of, nI_add]
        unfold bX9_decades_119
        rw [if_neg (by decide)]
        exact b3
  · subst e3
    rw [if_neg (show ¬ nI 1 = 0 by decide), if_neg (show ¬ nI 1 = 0 by decide)]
    obtain ⟨w, c1, m1, a0, a1, a2, a3, a4, a5, a6⟩ := J_show hB0 hL0 hQ ha hb
    obtain ⟨v', c', m', b1, b2, b3, b4, b5, b6⟩ := rest v c1 m1 (by omega) a5 (JL_act (Or.inr rfl) hL0 a3 a4) (JQ_act (Or.inr rfl) hQ a3) (by rw [a4.2.2.2.2.2.2 51 (by decide) (by decide)]; exact es0) (a6.trans ed0) a3 (DM_trans dm0 (DM_AM a4))
    refine ⟨v', c', m', b1, ?_, ?_, b4, b5, b6⟩
    · unfold bX7_runDecades_89
      rw [if_pos (show nI 1 = 1 from rfl), oR_of (sh13 h1), a1, oB_of]
      exact b2
    · unfold bX9_decades_119
      rw [if_pos (show nI 1 = 1 from rfl), oR_of (sh45 hB0.2.1), a2, oB_of]
      exact b3
  · subst e3
    rw [if_neg (show ¬ nI 2 = 0 by decide), if_neg (show ¬ nI 2 = 0 by decide)]
    obtain ⟨v', c', m', b1, b2, b3, b4, b5, b6⟩ := rest v c m0 (by omega) hB0 hL0 hQ es0 ed0 AF_rfl dm0
    refine ⟨v', c', m', b1, ?_, ?_, b4, b5, b6⟩
    · unfold bX7_runDecades_89
      rw [if_neg (show ¬ nI 2 = 1 by decide)]
      exact b2
    · unfold bX9_decades_119
      rw [if_neg (show ¬ nI 2 = 1 by decide)]
      exact b3
set_option maxRecDepth 100000 in
theorem J_decgo {q : Option Nat} {n : Nat} (hn : n ≤ 60) (N M : Nat) : ∀ (r k s v : Nat) (c m : Mm), k + r = n → v ≤ k → s < 1000003 → mL m 45 51 = w64 s → JB 40 c m → JL c m q → JQ c q → ∃ v' c' m', v' ≤ 60 ∧ rX7_runDecades_9 (N + r + 1) c 13 40 (nI n) (nI v) (nI s) (nI k) = some (nI v', c') ∧ rX9_decades_52 (M + r + 1) m 45 (nI n) (nI v) (nI k) = bX9_decades_144 m' 45 (nI v') ∧ AF 40 c c' ∧ DM m m' ∧ JB 40 c' m' := by
  intro r
  induction r with
  | zero =>
    intro k s v c m hk hv hs es hB hL hQ
    refine ⟨v, c, m, by omega, ?_, ?_, AF_rfl, DM_rfl, hB⟩
    · show bX7_runDecades_9 _ c 13 40 (nI n) (nI v) (nI s) (nI k) = _
      unfold bX7_runDecades_9
      rw [if_pos (nI_le (by omega) (by omega))]
    · show bX9_decades_52 _ m 45 (nI n) (nI v) (nI k) = _
      unfold bX9_decades_52
      rw [if_pos (nI_le (by omega) (by omega))]
  | succ r ih =>
    intro k s v c m hk hv hs es hB hL hQ
    have h1 := hB.1
    have h2 := hB.2.1
    have hF := hB.2.2.1
    have hR : Rrg (mI m 47) := hB.2.2.2.2.2.2.2.2.2.2
    obtain ⟨d, hd, ed⟩ := rg_nI (x := mI m 47 4) (M := 999) (rr hR (i := 4) (by decide) rfl) (by decide)
    have ed1 : mI c (40 + 1) 28 = nI d := by rw [JB_day hB, ed]
    show ∃ v' c' m', v' ≤ 60 ∧ bX7_runDecades_9 (rX7_runDecades_9 (N + r + 1)) c 13 40 (nI n) (nI v) (nI s) (nI k) = _ ∧ bX9_decades_52 (rX9_decades_52 (M + r + 1)) m 45 (nI n) (nI v) (nI k) = _ ∧ _
    unfold bX7_runDecades_9 bX9_decades_52
    rw [if_neg (nI_ge (by omega) (by omega)), oR_of hF.1, c_day hF, oB_of, ed1, if_neg (nI_ge (by omega) (by omega)), oK_of (sh45 h2), rf45_3 h2, oNn_of, oA_of (sh47 h2) (by decide) (by decide), oI_of, show mI m 47 (Int32.toNatClampNeg 4) = nI d from ed]
    by_cases z : d = 999
    · subst z
      refine ⟨v, c, m, by omega, ?_, ?_, AF_rfl, DM_rfl, hB⟩
      · rw [if_pos (by decide)]
      · rw [if_pos (by decide)]
    have nd : ¬ (999 : Int32) ≤ nI d := nI_ge (b := 999) (by omega) (by decide)
    rw [if_neg nd, if_neg nd]
    -- the three draws
    have l1 := nxD_lt s
    have l2 := nxD_lt (nxD s)
    have l3 := nxD_lt (nxD (nxD s))
    have sd : nxD s % 2 < 2 := Nat.mod_lt _ (by decide)
    have wd : nxD (nxD s) % 8 < 8 := Nat.mod_lt _ (by decide)
    rw [c_draw hs, oB_of, if_pos (by decide), oI_of, show (2 : Int32) = nI 2 from rfl, pk_rem (by omega) (by decide) (by decide), c_draw l1, oB_of, if_pos (by decide), oI_of, show (8 : Int32) = nI 8 from rfl, pk_rem (by omega) (by decide) (by decide), c_draw l2, oB_of, if_pos (by decide), oI_of, show (3 : Int32) = nI 3 from rfl, pk_rem (by omega) (by decide) (by decide)]
    have d1 := m_draw h2 hs (k := 2) (by decide) (by decide) es
    have d2 := m_draw (m := wL m 45 (vp_updL (mL m 45) 51 (w64 (nxD s)))) h2 l1 (k := 8) (by decide) (by decide) wL51
    have d3 := m_draw (m := wL (wL m 45 (vp_updL (mL m 45) 51 (w64 (nxD s)))) 45 (vp_updL (mL (wL m 45 (vp_updL (mL m 45) 51 (w64 (nxD s)))) 45) 51 (w64 (nxD (nxD s))))) h2 l2 (k := 3) (by decide) (by decide) wL51
    have q1 : ∀ f, hSh (wL m 45 f) := fun _ => h2
    have q2 : ∀ f g, hSh (wL (wL m 45 f) 45 g) := fun _ _ => h2
    rw [oR_of (sh45 h2), d1, oB_of, oR_of (sh45 (q1 _)), d2, oB_of, oR_of (sh45 (q2 _ _)), d3, oB_of]
    -- the memory behind the draws
    have q3 : ∃ m0, m0 = wL (wL (wL m 45 (vp_updL (mL m 45) 51 (w64 (nxD s)))) 45 (vp_updL (mL (wL m 45 (vp_updL (mL m 45) 51 (w64 (nxD s)))) 45) 51 (w64 (nxD (nxD s))))) 45 (vp_updL (mL (wL (wL m 45 (vp_updL (mL m 45) 51 (w64 (nxD s)))) 45 (vp_updL (mL (wL m 45 (vp_updL (mL m 45) 51 (w64 (nxD s)))) 45) 51 (w64 (nxD (nxD s))))) 45) 51 (w64 (nxD (nxD (nxD s))))) := ⟨_, rfl⟩
    obtain ⟨m0, e0⟩ := q3
    rw [← e0]
    have hB0 : JB 40 c m0 := by rw [e0]; exact hB
    have hL0 : JL c m0 q := by rw [e0]; exact hL
    have es0 : mL m0 45 51 = w64 (nxD (nxD (nxD s))) := by rw [e0]; exact wL51
    have dm0 : DM m m0 := by rw [e0]; exact DM_trans DM_wL (DM_trans DM_wL DM_wL)
    have ed0 : mI m0 47 4 = nI d := by rw [e0]; exact ed
    clear e0
    -- the day, and so on
    have rest : ∀ (v1 : Nat) (c1 m1 : Mm), v1 ≤ k + 1 → JB 40 c1 m1 → JL c1 m1 q → JQ c1 q → mL m1 45 51 = w64 (nxD (nxD (nxD s))) → mI m1 47 4 = nI d → AF 40 c c1 → DM m m1 → ∃ v' c' m', v' ≤ 60 ∧ bX7_runDecades_105 (rX7_runDecades_9 (N + r + 1)) c1 13 40 (nI n) (nI v1) (nI (nxD (nxD (nxD s)))) (nI k) = some (nI v', c') ∧ bX9_decades_134 (rX9_decades_52 (M + r + 1)) m1 45 (nI n) (nI v1) (nI k) = bX9_decades_144 m' 45 (nI v') ∧ AF 40 c c' ∧ DM m m' ∧ JB 40 c' m' := by
      intro v1 c1 m1 hv1 hB1 hL1 hQ1 es1 ed1 af1 dm1
      obtain ⟨c2, m2, a1, a2, a3, a4, a5, a6⟩ := J_pass hB1 hL1 hQ1 (d := d) (by omega) ed1
      obtain ⟨v', c', m', b1, b2, b3, b4, b5, b6⟩ := ih (k + 1) (nxD (nxD (nxD s))) v1 c2 m2 (by omega) hv1 l3 (by rw [a4.2.2.2.2.2.2 51 (by decide) (by decide)]; exact es1) a5 (JL_act (Or.inr rfl) hL1 a3 a4) (JQ_act (Or.inr rfl) hQ1 a3)
      refine ⟨v', c', m', b1, ?_, ?_, AF_trans af1 (AF_trans a3 b4), DM_trans dm1 (DM_trans (DM_AM a4) b5), b6⟩
      · unfold bX7_runDecades_105
        rw [oR_of (sh13 hB1.1), a1, oB_of, nI_1]
        exact b2
      · unfold bX9_decades_134
        rw [oR_of (sh45 hB1.2.1), a2, oB_of, nI_1]
        exact b3
    exact J_decbody (Nat.mod_lt _ (by decide)) (Nat.mod_lt _ (by decide)) (Nat.mod_lt _ (by decide)) hv hB0 hL0 hQ es0 dm0 ed0 rest
