/-! ===== what a law tells does not change while it is asked: compare, which ===== -/
set_option maxRecDepth 100000 in
theorem costV {f : Nat} {u m : Mm} {q : Option Nat} (hB : JB f u m) (hL : JL u m q) : ∃ V : Nat → Nat → Int32, ∀ s k, s < 2 → k < 8 → rg (V s k) 0 99 ∧ (∀ c, CsF u c → ∃ c', fX7_costOf c 13 q f (nI s) (nI k) = some (V s k, c') ∧ CsF c c') ∧ (∀ n, MF m n → ∃ n', fX9_costsOf n 45 (nI s) (nI k) = some (V s k, n') ∧ MF n n') := by
  have h : ∀ p : Nat × Nat, ∃ v : Int32, p.1 < 2 → p.2 < 8 → rg v 0 99 ∧ (∀ c, CsF u c → ∃ c', fX7_costOf c 13 q f (nI p.1) (nI p.2) = some (v, c') ∧ CsF c c') ∧ (∀ n, MF m n → ∃ n', fX9_costsOf n 45 (nI p.1) (nI p.2) = some (v, n') ∧ MF n n') := by
    intro p
    by_cases hp : p.1 < 2 ∧ p.2 < 8
    · obtain ⟨v, c0, m0, a1, a2, a3, a4, a5⟩ := J_cost hB hL hp.1 hp.2
      refine ⟨v, fun _ _ => ⟨a5, fun c hc => ?_, fun n hn => ?_⟩⟩
      · obtain ⟨v', c', m', b1, b2, b3, b4, b5⟩ := J_cost (JB_fr hB hc MF_rfl) (JL_fr hL hc MF_rfl) hp.1 hp.2
        rw [(some2 b2 a2).1] at b1
        exact ⟨c', b1, b3⟩
      · obtain ⟨v', c', m', b1, b2, b3, b4, b5⟩ := J_cost (JB_fr hB CsF_rfl hn) (JL_fr hL CsF_rfl hn) hp.1 hp.2
        rw [(some2 b1 a1).1] at b2
        exact ⟨m', b2, b4⟩
    · exact ⟨0, fun h1 h2 => absurd ⟨h1, h2⟩ hp⟩
  exact ⟨fun s k => Classical.choose (h (s, k)), fun s k hs hk => Classical.choose_spec (h (s, k)) hs hk⟩
set_option maxRecDepth 100000 in
theorem barrV {f : Nat} {u m : Mm} {q : Option Nat} (hB : JB f u m) (hL : JL u m q) (hQ : JQ u q) : ∃ V : Nat → Nat → Bool, ∀ s k, s < 2 → k < 8 → (∀ c, CsF u c → ∃ c', fX7_isBarred c 13 f (nI s) (nI k) = some (if V s k = true then 1 else 0, c') ∧ CsF c c') ∧ (∀ n, MF m n → ∃ n', fX9_isBarred n 45 (nI s) (nI k) = some (if V s k = true then 1 else 0, n') ∧ MF n n') := by
  have h : ∀ p : Nat × Nat, ∃ v : Bool, p.1 < 2 → p.2 < 8 → (∀ c, CsF u c → ∃ c', fX7_isBarred c 13 f (nI p.1) (nI p.2) = some (if v = true then 1 else 0, c') ∧ CsF c c') ∧ (∀ n, MF m n → ∃ n', fX9_isBarred n 45 (nI p.1) (nI p.2) = some (if v = true then 1 else 0, n') ∧ MF n n') := by
    intro p
    by_cases hp : p.1 < 2 ∧ p.2 < 8
    · obtain ⟨v, c0, m0, a1, a2, a3, a4⟩ := J_barred hB hL hQ hp.1 hp.2
      refine ⟨v, fun _ _ => ⟨fun c hc => ?_, fun n hn => ?_⟩⟩
      · obtain ⟨v', c', m', b1, b2, b3, b4⟩ := J_barred (JB_fr hB hc MF_rfl) (JL_fr hL hc MF_rfl) (JQ_fr hQ hc) hp.1 hp.2
        rw [(some2 b2 a2).1] at b1
        exact ⟨c', b1, b3⟩
      · obtain ⟨v', c', m', b1, b2, b3, b4⟩ := J_barred (JB_fr hB CsF_rfl hn) (JL_fr hL CsF_rfl hn) hQ hp.1 hp.2
        rw [(some2 b1 a1).1] at b2
        exact ⟨m', b2, b4⟩
    · exact ⟨false, fun h1 h2 => absurd ⟨h1, h2⟩ hp⟩
  exact ⟨fun s k => Classical.choose (h (s, k)), fun s k hs hk => Classical.choose_spec (h (s, k)) hs hk⟩
set_option maxRecDepth 100000 in
theorem readV {f : Nat} {u m : Mm} {q : Option Nat} (hB : JB f u m) (hL : JL u m q) (hQ : JQ u q) : ∃ V : Nat → Nat → Int32, ∀ s k, s < 2 → k < 8 → (∀ c, CsF u c → ∃ c', fX7_readingOf c 13 f (nI k) (nI s) = some (V s k, c') ∧ CsF c c') ∧ (∀ n, MF m n → ∃ n', fX9_readsOf n 45 (nI k) (nI s) = some (V s k, n') ∧ MF n n') := by
  have h : ∀ p : Nat × Nat, ∃ v : Int32, p.1 < 2 → p.2 < 8 → (∀ c, CsF u c → ∃ c', fX7_readingOf c 13 f (nI p.2) (nI p.1) = some (v, c') ∧ CsF c c') ∧ (∀ n, MF m n → ∃ n', fX9_readsOf n 45 (nI p.2) (nI p.1) = some (v, n') ∧ MF n n') := by
    intro p
    by_cases hp : p.1 < 2 ∧ p.2 < 8
    · obtain ⟨v, c0, m0, a1, a2, a3, a4, a5⟩ := J_read hB hL hQ hp.1 hp.2
      refine ⟨v, fun _ _ => ⟨fun c hc => ?_, fun n hn => ?_⟩⟩
      · obtain ⟨v', c', m', b1, b2, b3, b4, b5⟩ := J_read (JB_fr hB hc MF_rfl) (JL_fr hL hc MF_rfl) (JQ_fr hQ hc) hp.1 hp.2
        rw [(some2 b2 a2).1] at b1
        exact ⟨c', b1, b3⟩
      · obtain ⟨v', c', m', b1, b2, b3, b4, b5⟩ := J_read (JB_fr hB CsF_rfl hn) (JL_fr hL CsF_rfl hn) hQ hp.1 hp.2
        rw [(some2 b1 a1).1] at b2
        exact ⟨m', b2, b4⟩
    · exact ⟨0, fun h1 h2 => absurd ⟨h1, h2⟩ hp⟩
  exact ⟨fun s k => Classical.choose (h (s, k)), fun s k hs hk => Classical.choose_spec (h (s, k)) hs hk⟩
/-! compare -/
def cs8 (g : Nat → Int32) (x : Int32) : Int32 := x + g 0 + g 1 + g 2 + g 3 + g 4 + g 5 + g 6 + g 7
set_option maxRecDepth 100000 in
theorem c_all12 {u : Mm} {q : Option Nat} {V : Nat → Nat → Int32} (hS : hSh u) (hV : ∀ s k, s < 2 → k < 8 → (∀ c, CsF u c → ∃ c', fX7_costOf c 13 q 2 (nI s) (nI k) = some (V s k, c') ∧ CsF c c')) {K : Mm → Nat → Option Nat → Int32 → Int32 → Option (Int32 × Mm)} {N s : Nat} (hs : s < 2) : ∀ (r k : Nat) (x : Int32) (c : Mm), k + r = 8 → CsF u c → ∃ c', CsF u c' ∧ rX2_costOfAll_12 K (N + r + 1) c 17 q x (nI s) (nI k) = K c' 17 q (if r = 0 then x else if r = 1 then x + V s 7 else if r = 2 then x + V s 6 + V s 7 else if r = 3 then x + V s 5 + V s 6 + V s 7 else if r = 4 then x + V s 4 + V s 5 + V s 6 + V s 7 else if r = 5 then x + V s 3 + V s 4 + V s 5 + V s 6 + V s 7 else if r = 6 then x + V s 2 + V s 3 + V s 4 + V s 5 + V s 6 + V s 7 else if r = 7 then x + V s 1 + V s 2 + V s 3 + V s 4 + V s 5 + V s 6 + V s 7 else cs8 (V s) x) (nI (s + 1)) := by
  intro r
  induction r with
  | zero =>
    intro k x c hk hc
    have e : k = 8 := by omega
    subst e
    refine ⟨c, hc, ?_⟩
    show bX2_costOfAll_12 K _ c 17 q x (nI s) (nI 8) = _
    unfold bX2_costOfAll_12
    rw [if_pos (by decide), nI_1, if_pos rfl]
  | succ r ih =>
    intro k x c hk hc
    have hcS := CsF_hSh hc hS
    obtain ⟨c1, a1, a2⟩ := hV s k hs (by omega) c hc
    obtain ⟨c', b1, b2⟩ := ih (k + 1) (x + V s k) c1 (by omega) (CsF_trans hc a2)
    refine ⟨c', b1, ?_⟩
    show bX2_costOfAll_12 K (rX2_costOfAll_12 K (N + r + 1)) c 17 q x (nI s) (nI k) = _
    unfold bX2_costOfAll_12
    rw [if_neg (show ¬ (8 : Int32) ≤ nI k from nI_ge (b := 8) (by omega) (by decide)), oK_of (sh17 hcS), rf17_1 hcS, oNn_of, oK_of (sh17 hcS), rf17_0 hcS, oNn_of, oK_of (sh1 hcS), rf1_0 hcS, oNn_of, oR_of (sh13 hcS), a1, oB_of, oI_of, nI_1]
    refine b2.trans ?_
    rcases (by omega : r = 0 ∨ r = 1 ∨ r = 2 ∨ r = 3 ∨ r = 4 ∨ r = 5 ∨ r = 6 ∨ r = 7) with z | z | z | z | z | z | z | z
    · subst z; have : k = 7 := by omega
      subst this; rfl
    · subst z; have : k = 6 := by omega
      subst this; rfl
    · subst z; have : k = 5 := by omega
      subst this; rfl
    · subst z; have : k = 4 := by omega
      subst this; rfl
    · subst z; have : k = 3 := by omega
      subst this; rfl
    · subst z; have : k = 2 := by omega
      subst this; rfl
    · subst z; have : k = 1 := by omega
      subst this; rfl
    · subst z; have : k = 0 := by omega
      subst this; rfl
set_option maxRecDepth 100000 in
theorem c_all {u : Mm} {q : Option Nat} {V : Nat → Nat → Int32} (hS : hSh u) (hV : ∀ s k, s < 2 → k < 8 → (∀ c, CsF u c → ∃ c', fX7_costOf c 13 q 2 (nI s) (nI k) = some (V s k, c') ∧ CsF c c')) : ∃ c', CsF u c' ∧ fX2_costOfAll u 17 q = some (cs8 (V 1) (cs8 (V 0) 0), c') := by
  obtain ⟨c1, a1, a2⟩ := c_all12 hS hV (K := rX2_costOfAll_4 999999) (N := 999991) (s := 0) (by decide) 8 0 0 u (by decide) CsF_rfl
  obtain ⟨c2, b1, b2⟩ := c_all12 hS hV (K := rX2_costOfAll_4 999998) (N := 999991) (s := 1) (by decide) 8 0 (cs8 (V 0) 0) c1 (by decide) a1
  refine ⟨c2, b1, ?_⟩
  show bX2_costOfAll_4 (rX2_costOfAll_4 999999) u 17 q 0 (nI 0) = _
  unfold bX2_costOfAll_4
  rw [if_neg (by decide)]
  refine a2.trans ?_
  show bX2_costOfAll_4 (rX2_costOfAll_4 999998) c1 17 q (cs8 (V 0) 0) (nI 1) = _
  unfold bX2_costOfAll_4
  rw [if_neg (by decide)]
  refine b2.trans ?_
  show bX2_costOfAll_4 _ c2 17 q (cs8 (V 1) (cs8 (V 0) 0)) (nI 2) = _
  unfold bX2_costOfAll_4
  rw [if_pos (by decide)]
def cm8 (V : Nat → Nat → Int32) : Nat → Nat → Int32 → Int32
  | 0, _, x => x
  | r + 1, k, x => cm8 V r (k + 1) (x + (V 0 k + V 1 k))
set_option maxRecDepth 100000 in
theorem m_cmp {m : Mm} {V : Nat → Nat → Int32} (hS : hSh m) (hV : ∀ s k, s < 2 → k < 8 → (∀ n, MF m n → ∃ n', fX9_costsOf n 45 (nI s) (nI k) = some (V s k, n') ∧ MF n n')) {had : Int32} {N : Nat} : ∀ (r k : Nat) (x : Int32) (n : Mm), k + r = 8 → MF m n → ∃ n', MF m n' ∧ rX9_compare_34 (N + r + 1) n 45 had x (nI k) = some (cm8 V r k x, wI n' 47 (upd (mI n' 47) 3 had)) := by
  intro r
  induction r with
  | zero =>
    intro k x n hk hn
    have e : k = 8 := by omega
    subst e
    have hnS := MF_hSh hn hS
    refine ⟨n, hn, ?_⟩
    show bX9_compare_34 _ n 45 had x (nI 8) = _
    unfold bX9_compare_34
    rw [if_pos (by decide), oK_of (sh45 hnS), rf45_3 hnS, oNn_of, oA_of (sh47 hnS) (by decide) (by decide), oU_of]
    rfl
  | succ r ih =>
    intro k x n hk hn
    have hnS := MF_hSh hn hS
    obtain ⟨n1, a1, a2⟩ := hV 0 k (by decide) (by omega) n hn
    obtain ⟨n2, b1, b2⟩ := hV 1 k (by decide) (by omega) n1 (MF_trans hn a2)
    have hn1 := MF_hSh a2 hnS
    obtain ⟨n', c1, c2⟩ := ih (k + 1) (x + (V 0 k + V 1 k)) n2 (by omega) (MF_trans hn (MF_trans a2 b2))
    refine ⟨n', c1, ?_⟩
    show bX9_compare_34 (rX9_compare_34 (N + r + 1)) n 45 had x (nI k) = _
    unfold bX9_compare_34
    rw [if_neg (show ¬ (8 : Int32) ≤ nI k from nI_ge (b := 8) (by omega) (by decide)), oR_of (sh45 hnS), show fX9_costsOf n 45 0 (nI k) = some (V 0 k, n1) from a1, oB_of, oR_of (sh45 hn1), show fX9_costsOf n1 45 1 (nI k) = some (V 1 k, n2) from b1, oB_of, oI_of, nI_1]
    exact c2
set_option maxRecDepth 100000 in
theorem cm_cs (V : Nat → Nat → Int32) : cm8 V 8 0 0 = cs8 (V 1) (cs8 (V 0) 0) := by
  show 0 + (V 0 0 + V 1 0) + (V 0 1 + V 1 1) + (V 0 2 + V 1 2) + (V 0 3 + V 1 3) + (V 0 4 + V 1 4) + (V 0 5 + V 1 5) + (V 0 6 + V 1 6) + (V 0 7 + V 1 7) = 0 + V 0 0 + V 0 1 + V 0 2 + V 0 3 + V 0 4 + V 0 5 + V 0 6 + V 0 7 + V 1 0 + V 1 1 + V 1 2 + V 1 3 + V 1 4 + V 1 5 + V 1 6 + V 1 7
  ac_rfl
set_option maxRecDepth 100000 in
theorem c_lawOf {c : Mm} (hS : hSh c) {x : Int32} {q : Option Nat} (h : (q = none ∧ x = -1) ∨ ∃ i t n, q = some t ∧ x = nI i ∧ i < n ∧ n ≤ 6 ∧ mI c 1 14 = nI n ∧ mR c 12 i = some t) : fX0_lawOf c 1 x = some (q, c) := by
  unfold fX0_lawOf bX0_lawOf_18
  rcases h with ⟨rfl, rfl⟩ | ⟨i, t, n, rfl, rfl, h2, h3, h4, h5⟩
  · rw [oR_of (sh1 hS), c_hasLaw hS, oB_of, if_neg (show ¬ ((0 : Int32) ≤ -1 ∧ -1 < mI c 1 14) from fun q => absurd q.1 (by decide)), if_pos rfl]
  · rw [oR_of (sh1 hS), c_hasLaw hS, oB_of, h4, if_pos (show 0 ≤ nI i ∧ nI i < nI n from ⟨nI_pos' (by omega), Int32.not_le.mp (nI_ge h2 (by omega))⟩), if_neg (by decide), oK_of (sh1 hS), rf1_13 hS, oNn_of, oA_k (sh12 hS) (by omega) (by decide), clm (by omega), h5, oNn_of]
set_option maxRecDepth 100000 in
theorem s35 : hwS_35 (Rel LR) := by
  intro x u h
  have hS := h.1
  have hT : hSh (mT u) := hS
  obtain ⟨q0, hB, hL0, hQ0⟩ := Rel_J h
  obtain ⟨r1, r2, r3⟩ := rl3 h
  have r3' := r3
  unfold rg at r3'
  by_cases cx : x = -1 ∨ (0 ≤ x ∧ x < mI u 47 2)
  · obtain ⟨⟨n, n1, n2, n3, n4⟩, -⟩ := h.2.2.2.2.2.2
    have en : mI u 47 2 = nI n := (rw2 h).trans n1
    -- the law of that number
    have hq : ∃ q, ((q = none ∧ x = -1) ∨ ∃ i t n, q = some t ∧ x = nI i ∧ i < n ∧ n ≤ 6 ∧ mI u 1 14 = nI n ∧ mR u 12 i = some t) ∧ ((q = none ∧ x = -1) ∨ ∃ i t A, q = some t ∧ 71 ≤ t ∧ i < 6 ∧ x = nI i ∧ CLaw u t A ∧ RLaw (fun y => mI u 47 (130 + 900 * i + y)) A ∧ AOK A) := by
      by_cases z : x = -1
      · exact ⟨none, Or.inl ⟨rfl, z⟩, Or.inl ⟨rfl, z⟩⟩
      · obtain ⟨g1, g2⟩ := cx.resolve_left z
        obtain ⟨i, hi, ei⟩ := rg_nI (x := x) (M := 5) (by
          unfold rg
          have k1 := Int32.le_iff_toInt_le.mp g1
          have k2 := Int32.lt_iff_toInt_lt.mp g2
          have k3 : (0 : Int32).toInt = 0 := by decide
          omega) (by decide)
        have hin : i < n := by
          rw [ei, en] at g2
          exact Nat.lt_of_not_le (fun q2 => absurd g2 (nI_nlt q2 (by omega)))
        obtain ⟨t, t1, ⟨t2, A, a1, a2, a3⟩, t3⟩ := n4 i hin
        exact ⟨some t, Or.inr ⟨i, t, n, rfl, ei, hin, n2, n1, t1⟩, Or.inr ⟨i, t, A, rfl, t2, by omega, ei, a1, a2, a3⟩⟩
    obtain ⟨q, hq1, hq2⟩ := hq
    have hRx : Rrg (upd (mI u 47) 3 x) := by
      refine Rrg_set hB.2.2.2.2.2.2.2.2.2.2 ?_ ?_
      · show rg x (-1) 5
        unfold rg
        rcases cx with c | c
        · subst c; decide
        · have k1 := Int32.le_iff_toInt_le.mp c.1
          have k2 := Int32.lt_iff_toInt_lt.mp c.2
          have k3 : (0 : Int32).toInt = 0 := by decide
          omega
      · show x.toInt < (mI u 47 2).toInt
        rcases cx with c | c
        · subst c
          have k3 : (-1 : Int32).toInt = -1 := by decide
          omega
        · exact Int32.lt_iff_toInt_lt.mp c.2
    have up3 : ∀ i, i ≠ 3 → upd (mI u 47) 3 x i = mI u 47 i := fun i hi => pk_un hi
    have base : ∀ v : Mm, hSh v → mI v 47 = mI u 47 → mI v 45 20 = 0 → JB 2 u (wI v 47 (upd (mI u 47) 3 x)) ∧ JL u (wI v 47 (upd (mI u 47) 3 x)) q := by
      intro v hv e47 e20
      obtain ⟨b1, b2, b3, b4, b5, b6, b7, b8, b9, b10, b11⟩ := hB
      refine ⟨⟨b1, hv, b3, b4, e20, fun i hi => ?_, ?_, ?_, fun i hi => ?_, fun i hi => ?_, hRx⟩, ?_⟩
      · rw [b6 i hi]; exact (up3 _ (by omega)).symm
      · rw [b7]; exact (up3 _ (by omega)).symm
      · rw [b8]; exact (up3 _ (by omega)).symm
      · rw [b9 i hi]; exact (up3 _ (by omega)).symm
      · rw [b10 i hi]; exact (up3 _ (by omega)).symm
      · rcases hq2 with ⟨z1, z2⟩ | ⟨i, t, A, z1, z2, z3, z4, z5, z6, z7⟩
        · exact Or.inl ⟨z1, z2⟩
        · refine Or.inr ⟨i, t, A, z1, z2, z3, z4, z5, ?_, z7⟩
          show RLaw (fun y => upd (mI u 47) 3 x (130 + 900 * i + y)) A
          rw [show (fun y => upd (mI u 47) 3 x (130 + 900 * i + y)) = (fun y => mI u 47 (130 + 900 * i + y)) from funext (fun y => up3 _ (by omega))]
          exact z6
    have e20u : mI u 45 20 = 0 := hB.2.2.2.2.1
    obtain ⟨B0, L0⟩ := base (mT u) hT rfl e20u
    obtain ⟨V0, hV0⟩ := costV B0 L0
    obtain ⟨c1, a1, a2⟩ := c_all hS (fun s k hs hk => (hV0 s k hs hk).2.1)
    have hc1 := CsF_hSh a1 hS
    obtain ⟨B1, L1⟩ := base (mT c1) hc1 (a1.2.2.2 47 (by decide)) (by show mI c1 45 20 = 0; rw [a1.2.2.2 45 (by decide)]; exact e20u)
    obtain ⟨V, hV⟩ := costV B1 L1
    obtain ⟨c2, d1, d2⟩ := c_all hS (fun s k hs hk => (hV s k hs hk).2.1)
    obtain ⟨x1, x2⟩ := some2 d2 a2
    subst x2
    have hcT : hSh (mT c2) := hc1
    obtain ⟨n', f1, f2⟩ := m_cmp B1.2.1 (fun s k hs hk => (hV s k hs hk).2.2) (had := mI u 47 3) (N := 999991) 8 0 0 _ (by decide) MF_rfl
    rw [cm_cs] at f2
    refine ⟨cs8 (V 1) (cs8 (V 0) 0), c2, wI n' 47 (upd (mI n' 47) 3 (mI u 47 3)), ?_, hR45_Rel hc1, ?_, ?_⟩
    · show fX8_compare u 0 x = _
      have tail : bX8_compare_18 u 0 x = some (cs8 (V 1) (cs8 (V 0) 0), c2) := by
        unfold bX8_compare_18
        rw [oK_of (sh0 hS), rf0_2 hS, oNn_of, oK_of (sh0 hS), rf0_0 hS, oNn_of, oR_of (sh1 hS), c_lawOf hS hq1, oB_of, oR_of (sh17 hS), d2, oB_of]
      unfold fX8_compare
      by_cases z : x = -1
      · rw [if_pos z, tail]
      · have g := cx.resolve_left z
        rw [rw2 h] at g
        rw [if_neg z, oK_of (sh0 hS), rf0_0 hS, oNn_of, oR_of (sh1 hS), c_hasLaw hS, oB_of, if_pos g, if_neg (by decide), tail]
    · show fX9_compare c2 45 x = _
      unfold fX9_compare
      have e2 : mI (mT c2) 47 2 = mI u 47 2 := by show mI c2 47 2 = _; rw [a1.2.2.2 47 (by decide)]
      have e3 : mI (mT c2) 47 (Int32.toNatClampNeg 3) = mI u 47 3 := by show mI c2 47 3 = _; rw [a1.2.2.2 47 (by decide)]
      rw [oK_of (sh45 hc1), oT, oR_of (sh45 hcT), m_isLaw hcT x (by rw [e2]; exact r3'.1), oB_of, e2, if_pos cx, if_neg (by decide), oK_of (sh45 hcT), rf45_3 hcT, oNn_of, oA_of (sh47 hcT) (by decide) (by decide), oI_of, oK_of (sh45 hcT), oNn_of, oA_of (sh47 hcT) (by decide) (by decide), oU_of, e3, show mI (mT c2) 47 = mI u 47 from a1.2.2.2 47 (by decide)]
      exact f2
    · refine Rel_Scr LRf_LR h (Scr_trans (Scr_CsF a1) (Scr_trans Scr_mT ?_))
      have e47 : upd (mI n' 47) 3 (mI u 47 3) = mI (mT c2) 47 := by
        rw [f1.2.2.2.1 47 (by decide)]
        show upd (upd (mI u 47) 3 x) 3 (mI u 47 3) = mI c2 47
        rw [upd_s, upd_id rfl, a1.2.2.2 47 (by decide)]
      refine ⟨f1.1, f1.2.1, f1.2.2.1, fun a _ h2 _ => ?_, fun k hk => ?_, fun i _ => ?_⟩
      · by_cases z : a = 47
        · subst z; exact e47
        · rw [mI_wI, if_neg z, f1.2.2.2.1 a h2, mI_wI, if_neg z]
      · show mI n' 45 k = _
        rw [f1.2.2.2.2.1 k (fun e => by rw [e] at hk; revert hk; decide) (fun e => by rw [e] at hk; revert hk; decide)]
        rfl
      · show mI n' 50 i = _
        rw [f1.2.2.2.1 50 (by decide)]
        rfl
  · have cx1 : ¬ x = -1 := fun z => cx (Or.inl z)
    have cx2 : ¬ (0 ≤ x ∧ x < mI u 1 14) := fun z => cx (Or.inr (by rw [rw2 h]; exact z))
    refine ⟨-1, u, mT u, ?_, hR45_Rel hS, ?_, Rel_mT LRf_LR h⟩
    · show fX8_compare u 0 x = _
      unfold fX8_compare
      rw [if_neg cx1, oK_of (sh0 hS), rf0_0 hS, oNn_of, oR_of (sh1 hS), c_hasLaw hS, oB_of, if_neg cx2, if_pos rfl]
    · show fX9_compare u 45 x = _
      unfold fX9_compare
      rw [oK_of (sh45 hS), oT, oR_of (sh45 hT), m_isLaw hT x r3'.1, oB_of, if_neg (show ¬ (x = -1 ∨ (0 ≤ x ∧ x < mI (mT u) 47 2)) from cx), if_pos rfl]
/-! which -/
def tldB (R : Nat → Nat → Int32) (sd by_ : Nat → Int32) (g : Nat) : Nat → Nat → Bool
  | 0, _ => true
  | r + 1, k => decide (R (sd k).toNatClampNeg g = by_ k) && tldB R sd by_ g r (k + 1)
set_option maxRecDepth 100000 in
theorem c_told {u : Mm} {V : Nat → Nat → Int32} (hS : hSh u) (hV : ∀ s k, s < 2 → k < 8 → (∀ c, CsF u c → ∃ c', fX7_readingOf c 13 2 (nI k) (nI s) = some (V s k, c') ∧ CsF c c')) {n : Nat} (hn : mI u 1 10 = nI n) (hN : n ≤ 6) (hs : ∀ k, k < n → rg (mI u 10 k) 0 1) {g : Nat} (hg : g < 8) {N : Nat} : ∀ (r k : Nat) (c : Mm), k + r = n → CsF u c → ∃ c', CsF u c' ∧ rX2_isAsTold_2 (N + r + 1) c 17 (nI g) (nI k) = some (if tldB V (mI u 10) (mI u 11) g r k then 1 else 0, c') := by
  intro r
  induction r with
  | zero =>
    intro k c hk hc
    have hcS := CsF_hSh hc hS
    refine ⟨c, hc, ?_⟩
    show bX2_isAsTold_2 _ c 17 (nI g) (nI k) = _
    unfold bX2_isAsTold_2 tldB
    rw [oK_of (sh17 hcS), rf17_0 hcS, oNn_of, oK_of (sh1 hcS), oI_of, hc.2.2.2 1 (by decide), hn, if_pos (nI_le (by omega) (by omega)), oZ1]
    rfl
  | succ r ih =>
    intro k c hk hc
    have hcS := CsF_hSh hc hS
    obtain ⟨s, hs1, es⟩ := rg_nI (M := 1) (hs k (by omega)) (by decide)
    obtain ⟨c1, a1, a2⟩ := hV s g (by omega) hg c hc
    have hc1 := CsF_hSh a2 hcS
    have fr := CsF_trans hc a2
    show ∃ c', CsF u c' ∧ bX2_isAsTold_2 (rX2_isAsTold_2 (N + r + 1)) c 17 (nI g) (nI k) = _
    unfold bX2_isAsTold_2 tldB
    rw [oK_of (sh17 hcS), rf17_0 hcS, oNn_of, oK_of (sh1 hcS), oI_of, hc.2.2.2 1 (by decide), hn, if_neg (nI_ge (by omega) (by omega)), if_neg (show ¬ (6 : Int32) ≤ nI k from nI_ge (b := 6) (by omega) (by decide)), oK_of (sh17 hcS), rf17_1 hcS, oNn_of, oK_of (sh17 hcS), oNn_of, oK_of (sh1 hcS), rf1_0 hcS, oNn_of, oK_of (sh17 hcS), oNn_of, oK_of (sh1 hcS), rf1_8 hcS, oNn_of, oA_k (sh10 hcS) (by omega) (by decide), oI_of, clm (by omega), hc.2.2.2 10 (by decide), es, oR_of (sh13 hcS), a1, oB_of, oK_of (sh17 hc1), rf17_0 hc1, oNn_of, oK_of (sh1 hc1), rf1_9 hc1, oNn_of, oA_k (sh11 hc1) (by omega) (by decide), oI_of, fr.2.2.2 11 (by decide), clm (by omega), nI_1]
    by_cases z : V s g = mI u 11 k
    · obtain ⟨c', b1, b2⟩ := ih (k + 1) c1 (by omega) fr
      refine ⟨c', b1, ?_⟩
      rw [if_pos z, b2, decide_eq_true z, Bool.true_and]
    · refine ⟨c1, fr, ?_⟩
      rw [if_neg z, oZ0, decide_eq_false z, Bool.false_and]
      rfl
set_option maxRecDepth 100000 in
theorem m_told {m : Mm} {V : Nat → Nat → Int32} (hS : hSh m) (hV : ∀ s k, s < 2 → k < 8 → (∀ n, MF m n → ∃ n', fX9_readsOf n 45 (nI k) (nI s) = some (V s k, n') ∧ MF n n')) {K : Mm → Nat → Int32 → Int32 → Option (Int32 × Mm)} {n : Nat} (hn : mI m 47 1 = nI n) (hN : n ≤ 6) {sd by_ : Nat → Int32} (h1 : ∀ k, k < n → mI m 47 (115 + 2 * k) = sd k) (h2 : ∀ k, k < n → mI m 47 (116 + 2 * k) = by_ k) (hs : ∀ k, k < n → rg (sd k) 0 1) {g : Nat} (hg : g < 8) {x : Int32} {N : Nat} : ∀ (r k : Nat) (o : Mm), k + r = n → MF m o → ∃ o', MF m o' ∧ rX9_which_20 K (N + r + 1) o 45 x (nI g) 1 (nI k) = bX9_which_81 K o' 45 x (nI g) (if tldB V sd by_ g r k then 1 else 0) := by
  have stop : ∀ (N k : Nat) (o : Mm), MF m o → k ≤ n → rX9_which_20 K (N + 1) o 45 x (nI g) 0 (nI k) = bX9_which_81 K o 45 x (nI g) 0 := by
    intro N k o ho hk
    have hoS := MF_hSh ho hS
    show bX9_which_20 K _ o 45 x (nI g) 0 (nI k) = _
    unfold bX9_which_20
    rw [oK_of (sh45 hoS), rf45_3 hoS, oNn_of, oA_of (sh47 hoS) (by decide) (by decide), oI_of]
    split
    · rfl
    · rw [if_pos rfl]
  intro r
  induction r with
  | zero =>
    intro k o hk ho
    have hoS := MF_hSh ho hS
    refine ⟨o, ho, ?_⟩
    show bX9_which_20 K _ o 45 x (nI g) 1 (nI k) = _
    unfold bX9_which_20 tldB
    rw [oK_of (sh45 hoS), rf45_3 hoS, oNn_of, oA_of (sh47 hoS) (by decide) (by decide), oI_of, show mI o 47 (Int32.toNatClampNeg 1) = nI n from by rw [ho.2.2.2.1 47 (by decide)]; exact hn, if_pos (nI_le (by omega) (by omega))]
    rfl
  | succ r ih =>
    intro k o hk ho
    have hoS := MF_hSh ho hS
    have e47 := ho.2.2.2.1 47 (by decide)
    obtain ⟨s, hs1, es⟩ := rg_nI (M := 1) (hs k (by omega)) (by decide)
    obtain ⟨o1, a1, a2⟩ := hV s g (by omega) hg o ho
    have ho1 := MF_hSh a2 hoS
    have fr := MF_trans ho a2
    have e115 : (115 : Int32) + 2 * nI k = nI (115 + 2 * k) := by rw [show (115 : Int32) = nI 115 from rfl, show (2 : Int32) = nI 2 from rfl, nI_mul, nI_add]
    show ∃ o', MF m o' ∧ bX9_which_20 K (rX9_which_20 K (N + r + 1)) o 45 x (nI g) 1 (nI k) = _
    unfold bX9_which_20 bX9_which_74
    rw [oK_of (sh45 hoS), rf45_3 hoS, oNn_of, oA_of (sh47 hoS) (by decide) (by decide), oI_of, show mI o 47 (Int32.toNatClampNeg 1) = nI n from by rw [e47]; exact hn, if_neg (nI_ge (by omega) (by omega)), if_neg (by decide), oK_of (sh45 hoS), oNn_of, e115, oA_k (sh47 hoS) (by omega) (by decide), oI_of, clm (by omega), e47, h1 k (by omega), es, oR_of (sh45 hoS), a1, oB_of, oK_of (sh45 ho1), rf45_3 ho1, oNn_of, nI_1, oA_k (sh47 ho1) (by omega) (by decide), oI_of, clm (by omega), fr.2.2.2.1 47 (by decide), show 115 + 2 * k + 1 = 116 + 2 * k by omega, h2 k (by omega), nI_1]
    unfold tldB
    rw [es, clm (by omega)]
    by_cases z : V s g = by_ k
    · obtain ⟨o', b1, b2⟩ := ih (k + 1) o1 (by omega) fr
      refine ⟨o', b1, ?_⟩
      rw [if_pos z, decide_eq_true z, Bool.true_and, b2]
    · refine ⟨o1, fr, ?_⟩
      rw [if_neg z, decide_eq_false z, Bool.false_and, stop (N + r) (k + 1) o1 fr (by omega)]
      rfl
def whN (P : Nat → Bool) : Nat → Nat → Nat → Nat
  | 0, _, x => x
  | r + 1, g, x => whN P r (g + 1) (if P g then x ||| 2 ^ g else x)
set_option maxRecDepth 100000 in
theorem s34 : hwS_34 (Rel LR) := by
  intro u h
  have hS := h.1
  obtain ⟨q, hB, hL, hQ⟩ := Rel_J h
  obtain ⟨n, hN, en⟩ := rw_n h 1 (by decide) (M := 6) rfl (by decide)
  have en1 : mI u 1 10 = nI n := by rw [← rw1 h]; exact en
  have hsd : ∀ k, k < n → rg (mI u 10 k) 0 1 := by
    intro k hk
    have e := at_told h.2.1 (k := k) (by omega)
    have e' : mI u 47 (115 + 2 * k) = mI u 10 k := e
    rw [← e']
    have := h.2.1.2.1 (115 + 2 * k) (by omega)
    rw [(by decide +kernel : ∀ k, k < 6 → rlh (115 + 2 * k) = (0, 1)) k (by omega)] at this
    exact this
  have cgo : ∀ (V : Nat → Nat → Int32), (∀ s k, s < 2 → k < 8 → (∀ c, CsF u c → ∃ c', fX7_readingOf c 13 2 (nI k) (nI s) = some (V s k, c') ∧ CsF c c')) → ∀ (N r g x : Nat) (c : Mm), g + r = 8 → x < 256 → CsF u c → ∃ c', CsF u c' ∧ rX2_signsThatFit_4 (N + r + 1) c 17 (nI x) (nI g) = some (nI (whN (fun g => tldB V (mI u 10) (mI u 11) g n 0) r g x), c') := by
    intro V hV N r
    induction r with
    | zero =>
      intro g x c hg hx hc
      have e : g = 8 := by omega
      subst e
      refine ⟨c, hc, ?_⟩
      show bX2_signsThatFit_4 _ c 17 (nI x) (nI 8) = _
      unfold bX2_signsThatFit_4
      rw [if_pos (by decide)]; rfl
    | succ r ih =>
      intro g x c hg hx hc
      have hcS := CsF_hSh hc hS
      obtain ⟨c1, a1, a2⟩ := c_told hS hV en1 hN hsd (g := g) (by omega) (N := 999999 - n) n 0 c (by omega) hc
      have a2' : fX2_isAsTold c 17 (nI g) = some (if tldB V (mI u 10) (mI u 11) g n 0 then 1 else 0, c1) := by
        rw [show 999999 - n + n + 1 = hwF by unfold hwF; omega] at a2
        exact a2
      show ∃ c', CsF u c' ∧ bX2_signsThatFit_4 (rX2_signsThatFit_4 (N + r + 1)) c 17 (nI x) (nI g) = _
      unfold bX2_signsThatFit_4 bX2_signsThatFit_24
      rw [if_neg (show ¬ (8 : Int32) ≤ nI g from nI_ge (b := 8) (by omega) (by decide)), oR_of (sh17 hcS), a2', oB_of, nI_1]
      unfold whN
      cases hb : tldB V (mI u 10) (mI u 11) g n 0 with
      | false =>
        obtain ⟨c', b1, b2⟩ := ih (g + 1) x c1 (by omega) hx a1
        refine ⟨c', b1, ?_⟩
        rw [if_pos (by decide)]; exact b2
      | true =>
        obtain ⟨c', b1, b2⟩ := ih (g + 1) (x ||| 2 ^ g) c1 (by omega) (or_lt hx (by omega)) a1
        refine ⟨c', b1, ?_⟩
        rw [if_neg (by decide), oI_of, or_nI x hx g (by omega)]; exact b2
  have mgo : ∀ (V : Nat → Nat → Int32) (m : Mm), hSh m → mI m 47 = mI u 47 → (∀ s k, s < 2 → k < 8 → (∀ n, MF m n → ∃ n', fX9_readsOf n 45 (nI k) (nI s) = some (V s k, n') ∧ MF n n')) → ∀ (N r g x : Nat) (o : Mm), g + r = 8 → x < 256 → MF m o → ∃ o', MF m o' ∧ rX9_which_9 (N + r + 1) o 45 (nI x) (nI g) = some (nI (whN (fun g => tldB V (mI u 10) (mI u 11) g n 0) r g x), o') := by
    intro V m hm e47 hV N r
    induction r with
    | zero =>
      intro g x o hg hx ho
      have e : g = 8 := by omega
      subst e
      refine ⟨o, ho, ?_⟩
      show bX9_which_9 _ o 45 (nI x) (nI 8) = _
      unfold bX9_which_9
      rw [if_pos (by decide)]; rfl
    | succ r ih =>
      intro g x o hg hx ho
      obtain ⟨o1, a1, a2⟩ := m_told hm hV (K := rX9_which_9 (N + r + 1)) (n := n) (by rw [e47]; exact en) hN (sd := mI u 10) (by_ := mI u 11) (fun k hk => by rw [e47]; exact at_told h.2.1 (by omega)) (fun k hk => by rw [e47]; exact at_told1 h.2.1 (by omega)) hsd (g := g) (by omega) (x := nI x) (N := 999999 - n) n 0 o (by omega) ho
      rw [show 999999 - n + n + 1 = hwF by unfold hwF; omega] at a2
      show ∃ o', MF m o' ∧ bX9_which_9 (rX9_which_9 (N + r + 1)) o 45 (nI x) (nI g) = _
      unfold bX9_which_9
      rw [if_neg (show ¬ (8 : Int32) ≤ nI g from nI_ge (b := 8) (by omega) (by decide))]
      unfold whN
      cases hb : tldB V (mI u 10) (mI u 11) g n 0 with
      | false =>
        obtain ⟨o', b1, b2⟩ := ih (g + 1) x o1 (by omega) hx a1
        refine ⟨o', b1, a2.trans ?_⟩
        unfold bX9_which_81 bX9_which_93
        rw [hb, if_pos (by decide), oI_of, nI_1, show nI x ||| 0 = nI x from by rw [show (0 : Int32) = nI 0 from rfl, nI_or, Nat.or_zero]]
        exact b2
      | true =>
        obtain ⟨o', b1, b2⟩ := ih (g + 1) (x ||| 2 ^ g) o1 (by omega) (or_lt hx (by omega)) a1
        refine ⟨o', b1, a2.trans ?_⟩
        unfold bX9_which_81 bX9_which_93
        rw [hb, if_neg (by decide), oI_of, nI_1, or_nI x hx g (by omega)]
        exact b2
  obtain ⟨V0, hV0⟩ := readV hB hL hQ
  obtain ⟨c1, a1, a2⟩ := cgo V0 (fun s k hs hk => (hV0 s k hs hk).1) 999991 8 0 0 u (by decide) (by decide) CsF_rfl
  obtain ⟨B1, L1⟩ := J_next hB hL a1
  obtain ⟨V, hV⟩ := readV B1 L1 hQ
  obtain ⟨c2, d1, d2⟩ := cgo V (fun s k hs hk => (hV s k hs hk).1) 999991 8 0 0 u (by decide) (by decide) CsF_rfl
  obtain ⟨x1, x2⟩ := some2 d2 a2
  subst x2
  have hc2 := CsF_hSh a1 hS
  obtain ⟨m', f1, f2⟩ := mgo V (mT c2) hc2 (a1.2.2.2 47 (by decide)) (fun s k hs hk => (hV s k hs hk).2) 999991 8 0 0 (mT c2) (by decide) (by decide) MF_rfl
  refine ⟨nI (whN (fun g => tldB V (mI u 10) (mI u 11) g n 0) 8 0 0), c2, m', ?_, hR45_Rel hc2, ?_, Rel_Scr LRf_LR h (Scr_trans (Scr_CsF a1) (Scr_trans Scr_mT (Scr_MF f1)))⟩
  · show fX8_which u 0 = _
    unfold fX8_which
    rw [oK_of (sh0 hS), rf0_2 hS, oNn_of, oR_of (sh17 hS), show fX2_signsThatFit u 17 = _ from d2, oB_of]
  · show fX9_which c2 45 = _
    unfold fX9_which
    rw [oK_of (sh45 hc2), oT]
    exact f2
