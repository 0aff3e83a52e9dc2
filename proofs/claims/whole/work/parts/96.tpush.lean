/-! ===== pushed ===== -/
def CqF (c c' : Mm) : Prop := mQ c' = mQ c ∧ mK c' = mK c ∧ mR c' = mR c ∧ (∀ a, a ≠ 16 → a ≠ 18 → mI c' a = mI c a)
def MqF (m m' : Mm) : Prop := mQ m' = mQ m ∧ mK m' = mK m ∧ mR m' = mR m ∧ (∀ a, a ≠ 45 → a ≠ 67 → mI m' a = mI m a) ∧ (∀ k, k ≠ 34 → k ≠ 38 → mI m' 45 k = mI m 45 k)
set_option maxRecDepth 100000 in
theorem CqF_rfl {c : Mm} : CqF c c := ⟨rfl, rfl, rfl, fun _ _ _ => rfl⟩
set_option maxRecDepth 100000 in
theorem MqF_rfl {m : Mm} : MqF m m := ⟨rfl, rfl, rfl, fun _ _ _ => rfl, fun _ _ _ => rfl⟩
set_option maxRecDepth 100000 in
theorem CqF_trans {c d e : Mm} (h : CqF c d) (k : CqF d e) : CqF c e := ⟨k.1.trans h.1, k.2.1.trans h.2.1, k.2.2.1.trans h.2.2.1, fun a h1 h2 => (k.2.2.2 a h1 h2).trans (h.2.2.2 a h1 h2)⟩
set_option maxRecDepth 100000 in
theorem MqF_trans {m n o : Mm} (h : MqF m n) (k : MqF n o) : MqF m o := ⟨k.1.trans h.1, k.2.1.trans h.2.1, k.2.2.1.trans h.2.2.1, fun a h1 h2 => (k.2.2.2.1 a h1 h2).trans (h.2.2.2.1 a h1 h2), fun a h1 h2 => (k.2.2.2.2 a h1 h2).trans (h.2.2.2.2 a h1 h2)⟩
set_option maxRecDepth 100000 in
theorem CqF_CsF {c d : Mm} (h : CsF c d) : CqF c d := ⟨h.1, h.2.1, h.2.2.1, fun a h1 _ => h.2.2.2 a h1⟩
set_option maxRecDepth 100000 in
theorem MqF_MF {m n : Mm} (h : MF m n) : MqF m n := ⟨h.1, h.2.1, h.2.2.1, fun a h1 _ => h.2.2.2.1 a h1, h.2.2.2.2.1⟩
set_option maxRecDepth 100000 in
theorem CqF_w {c : Mm} {g : Nat → Int32} : CqF c (wI c 18 g) := ⟨rfl, rfl, rfl, fun a _ h => by rw [mI_wI, if_neg h]⟩
set_option maxRecDepth 100000 in
theorem MqF_w {m : Mm} {g : Nat → Int32} : MqF m (wI m 67 g) := ⟨rfl, rfl, rfl, fun a _ h => by rw [mI_wI, if_neg h], fun _ _ _ => rfl⟩
set_option maxRecDepth 100000 in
theorem CqF_hSh {c c' : Mm} (k : CqF c c') (h : hSh c) : hSh c' := by
  unfold hSh at h ⊢
  rw [k.1, k.2.1, k.2.2.1]; exact h
set_option maxRecDepth 100000 in
theorem MqF_hSh {c c' : Mm} (k : MqF c c') (h : hSh c) : hSh c' := by
  unfold hSh at h ⊢
  rw [k.1, k.2.1, k.2.2.1]; exact h
set_option maxRecDepth 100000 in
theorem Jq {u m c n : Mm} {q : Option Nat} (hB : JB 2 u m) (hL : JL u m q) (hQ : JQ u q) (k : CqF u c) (l : MqF m n) : JB 2 c n ∧ JL c n q ∧ JQ c q := by
  obtain ⟨h1, h2, h3, h4, h5, h6, h7, h8, h9, h10, h11⟩ := hB
  have e47 := l.2.2.2.1 47 (by decide) (by decide)
  refine ⟨?_, ?_, ?_⟩
  · unfold JB
    rw [e47, k.2.2.2 3 (by decide) (by decide), k.2.2.2 1 (by decide) (by decide), k.2.2.2 4 (by decide) (by decide), k.2.2.2 5 (by decide) (by decide), l.2.2.2.2 20 (by decide) (by decide)]
    exact ⟨CqF_hSh k h1, MqF_hSh l h2, Fr2 (CqF_hSh k h1), h4, h5, h6, h7, h8, h9, h10, h11⟩
  · rcases hL with ⟨l1, l2⟩ | ⟨i, t, A, l1, l2, l3, l4, l5, l6, l7⟩
    · exact Or.inl ⟨l1, by rw [e47]; exact l2⟩
    · exact Or.inr ⟨i, t, A, l1, l2, l3, by rw [e47]; exact l4, CLaw_at l5 (fun a a1 a2 => ⟨by rw [k.2.1], by rw [k.2.2.1], k.2.2.2 a (by omega) (by omega)⟩), by rw [e47]; exact l6, l7⟩
  · unfold JQ
    rw [k.2.2.2 1 (by decide) (by decide), k.2.2.1]; exact hQ
set_option maxRecDepth 100000 in
/-- the costs and bars of a side's columns, whatever has been asked -/
theorem pushV {u m : Mm} {q : Option Nat} (hB : JB 2 u m) (hL : JL u m q) (hQ : JQ u q) {s : Nat} (hs : s < 2) : ∃ (V : Nat → Int32) (Bv : Nat → Bool), ∀ k, k < 8 → (∀ c, CqF u c → (∃ c', fX7_costOf c 13 q 2 (nI s) (nI k) = some (V k, c') ∧ CsF c c') ∧ ∃ c', fX7_isBarred c 13 2 (nI s) (nI k) = some (if Bv k = true then 1 else 0, c') ∧ CsF c c') ∧ (∀ n, MqF m n → (∃ n', fX9_costsOf n 45 (nI s) (nI k) = some (V k, n') ∧ MF n n') ∧ ∃ n', fX9_isBarred n 45 (nI s) (nI k) = some (if Bv k = true then 1 else 0, n') ∧ MF n n') := by
  have h : ∀ k : Nat, ∃ p : Int32 × Bool, k < 8 → (∀ c, CqF u c → (∃ c', fX7_costOf c 13 q 2 (nI s) (nI k) = some (p.1, c') ∧ CsF c c') ∧ ∃ c', fX7_isBarred c 13 2 (nI s) (nI k) = some (if p.2 = true then 1 else 0, c') ∧ CsF c c') ∧ (∀ n, MqF m n → (∃ n', fX9_costsOf n 45 (nI s) (nI k) = some (p.1, n') ∧ MF n n') ∧ ∃ n', fX9_isBarred n 45 (nI s) (nI k) = some (if p.2 = true then 1 else 0, n') ∧ MF n n') := by
    intro k
    by_cases hk : k < 8
    · obtain ⟨v, c0, m0, a1, a2, a3, a4, a5⟩ := J_cost hB hL hs hk
      obtain ⟨b, c9, m9, z1, z2, z3, z4⟩ := J_barred hB hL hQ hs hk
      refine ⟨(v, b), fun _ => ⟨fun c hc => ?_, fun n hn => ?_⟩⟩
      · obtain ⟨B1, L1, Q1⟩ := Jq hB hL hQ hc MqF_rfl
        obtain ⟨v', c', m', b1, b2, b3, b4, b5⟩ := J_cost B1 L1 hs hk
        obtain ⟨b', c8, m8, y1, y2, y3, y4⟩ := J_barred B1 L1 Q1 hs hk
        rw [(some2 b2 a2).1] at b1
        rw [(some2 y2 z2).1] at y1
        exact ⟨⟨c', b1, b3⟩, c8, y1, y3⟩
      · obtain ⟨B1, L1, Q1⟩ := Jq hB hL hQ CqF_rfl hn
        obtain ⟨v', c', m', b1, b2, b3, b4, b5⟩ := J_cost B1 L1 hs hk
        obtain ⟨b', c8, m8, y1, y2, y3, y4⟩ := J_barred B1 L1 Q1 hs hk
        rw [(some2 b1 a1).1] at b2
        rw [(some2 y1 z1).1] at y2
        exact ⟨⟨m', b2, b4⟩, m8, y2, y4⟩
    · exact ⟨(0, false), fun h1 => absurd h1 hk⟩
  exact ⟨fun k => (Classical.choose (h k)).1, fun k => (Classical.choose (h k)).2, fun k hk => Classical.choose_spec (h k) hk⟩
def psm (g : Nat → Int32) (k : Nat) : Nat → Nat → Int32 → Int32
  | 0, _, x => x
  | r + 1, w, x => psm g k r (w + 1) (if bitN k w = 1 then x + g w else x)
set_option maxRecDepth 100000 in
theorem psm_congr {f g : Nat → Int32} (h : ∀ w, w < 8 → f w = g w) {k : Nat} : ∀ r w x, w + r ≤ 8 → psm f k r w x = psm g k r w x
  | 0, _, _, _ => rfl
  | r + 1, w, x, hw => by
    unfold psm
    rw [h w (by omega)]
    exact psm_congr h r (w + 1) _ (by omega)
set_option maxRecDepth 100000 in
theorem c_cset {u : Mm} (h : hSh u) {k : Nat} (hk : k < 256) : fX2_costOfSet u 17 (nI k) = some (psm (mI u 18) k 8 0 0, u) := by
  have st : ∀ (N : Nat) (r w : Nat) (x : Int32), w + r = 8 → rX2_costOfSet_4 (N + r + 1) u 17 (nI k) x (nI w) = some (psm (mI u 18) k r w x, u) := by
    intro N r
    induction r with
    | zero =>
      intro w x hw
      have e : w = 8 := by omega
      subst e
      show bX2_costOfSet_4 _ u 17 (nI k) x (nI 8) = _
      unfold bX2_costOfSet_4
      rw [if_pos (by decide)]; rfl
    | succ r ih =>
      intro w x hw
      show bX2_costOfSet_4 (rX2_costOfSet_4 (N + r + 1)) u 17 (nI k) x (nI w) = _
      unfold bX2_costOfSet_4 bX2_costOfSet_28 psm
      rw [if_neg (show ¬ (8 : Int32) ≤ nI w from nI_ge (b := 8) (by omega) (by decide)), nI_1]
      by_cases z : bitN k w = 1
      · rw [if_pos ((bit_iff hk (by omega)).mpr z), if_pos z, oK_of (sh17 h), rf17_2 h, oNn_of, oA_k (sh18 h) (by omega) (by decide), oI_of, clm (by omega), oI_of]
        exact ih (w + 1) _ (by omega)
      · rw [if_neg (fun q => z ((bit_iff hk (by omega)).mp q)), if_neg z]
        exact ih (w + 1) _ (by omega)
  exact st 999991 8 0 0 (by decide)
set_option maxRecDepth 100000 in
theorem m_prices {u : Mm} (h : hSh u) {k : Nat} (hk : k < 256) : fX9_pricesOf u 45 (nI k) = some (psm (mI u 67) k 8 0 0, u) := by
  have st : ∀ (N : Nat) (r w : Nat) (x : Int32), w + r = 8 → rX9_pricesOf_4 (N + r + 1) u 45 (nI k) x (nI w) = some (psm (mI u 67) k r w x, u) := by
    intro N r
    induction r with
    | zero =>
      intro w x hw
      have e : w = 8 := by omega
      subst e
      show bX9_pricesOf_4 _ u 45 (nI k) x (nI 8) = _
      unfold bX9_pricesOf_4
      rw [if_pos (by decide)]; rfl
    | succ r ih =>
      intro w x hw
      show bX9_pricesOf_4 (rX9_pricesOf_4 (N + r + 1)) u 45 (nI k) x (nI w) = _
      unfold bX9_pricesOf_4 bX9_pricesOf_29 psm
      rw [if_neg (show ¬ (8 : Int32) ≤ nI w from nI_ge (b := 8) (by omega) (by decide)), m_is hk (by omega), oB_of, nI_1]
      rcases bitN01 k w with z | z
      · rw [z, if_pos (show nI 0 = 0 from rfl), if_neg (by decide), oI_of, Int32.add_zero]
        exact ih (w + 1) _ (by omega)
      · rw [z, if_neg (show ¬ nI 1 = 0 by decide), if_pos rfl, oK_of (sh45 h), rf45_42 h, oNn_of, oA_k (sh67 h) (by omega) (by decide), oI_of, clm (by omega), oI_of]
        exact ih (w + 1) _ (by omega)
  exact st 999991 8 0 0 (by decide)
/-- is it better -/
def pbt (g : Nat → Int32) (b k : Nat) : Bool := decide (0 < nI (pc k) - nI (pc b)) || (decide (nI (pc k) - nI (pc b) = 0) && decide (psm g k 8 0 0 < psm g b 8 0 0))
def pgo (g : Nat → Int32) (x : Nat) (sup : Int32) : Nat → Nat → Nat → Nat
  | 0, _, b => b
  | r + 1, k, b => pgo g x sup r (k + 1) (if (decide (nI k &&& (nI x ^^^ (-1)) = 0) && !decide (sup < psm g k 8 0 0) && pbt g b k) = true then k else b)
set_option maxRecDepth 100000 in
theorem pgo_lt {g : Nat → Int32} {x : Nat} {sup : Int32} : ∀ r k b, k + r ≤ 256 → b < 256 → pgo g x sup r k b < 256
  | 0, _, _, _, hb => hb
  | r + 1, k, b, hk, hb => pgo_lt r (k + 1) _ (by omega) (by split <;> omega)
set_option maxRecDepth 100000 in
theorem c_more {u : Mm} (h : hSh u) {k b : Nat} (hk : k < 256) (hb : b < 256) : fX2_pushesMore u 17 (nI k) (nI b) = some (if pbt (mI u 18) b k then 1 else 0, u) := by
  unfold fX2_pushesMore bX2_pushesMore_31 bX2_pushesMore_36 pbt
  rw [c_bcn hk, oB_of, c_bcn hb, oB_of, oI_of]
  by_cases z : 0 < nI (pc k) - nI (pc b)
  · rw [if_pos z, decide_eq_true z, Bool.true_or, oZ1]; rfl
  · rw [if_neg z, decide_eq_false z, Bool.false_or]
    by_cases z2 : nI (pc k) - nI (pc b) = 0
    · rw [if_pos z2, decide_eq_true z2, Bool.true_and, oR_of (sh17 h), c_cset h hk, oB_of, oR_of (sh17 h), c_cset h hb, oB_of]
      by_cases z3 : psm (mI u 18) k 8 0 0 < psm (mI u 18) b 8 0 0
      · rw [if_neg (Int32.not_le.mpr z3), decide_eq_true z3, oZ1]; rfl
      · rw [if_pos (Int32.not_lt.mp z3), decide_eq_false z3, oZ0]; rfl
    · rw [if_neg z2, decide_eq_false z2, Bool.false_and, oZ0]; rfl
set_option maxRecDepth 100000 in
theorem c_pgo {u : Mm} (h : hSh u) {s x : Nat} (hs : s < 2) {N : Nat} : ∀ (r k b : Nat), k + r = 256 → b < 256 → rX2_columnsToPush_98 (N + r + 1) u 17 (nI s) 2 (nI x) (nI b) (nI k) = some (nI (pgo (mI u 18) x (mI u 3 (24 + s)) r k b), u) := by
  intro r
  induction r with
  | zero =>
    intro k b hk hb
    have e : k = 256 := by omega
    subst e
    show bX2_columnsToPush_98 _ u 17 (nI s) 2 (nI x) (nI b) (nI 256) = _
    unfold bX2_columnsToPush_98
    rw [if_pos (by decide)]; rfl
  | succ r ih =>
    intro k b hk hb
    show bX2_columnsToPush_98 (rX2_columnsToPush_98 (N + r + 1)) u 17 (nI s) 2 (nI x) (nI b) (nI k) = _
    unfold bX2_columnsToPush_98 bX2_columnsToPush_144 pgo
    rw [if_neg (show ¬ (256 : Int32) ≤ nI k from nI_ge (b := 256) (by omega) (by decide)), nI_1]
    by_cases z : nI k &&& (nI x ^^^ (-1)) = 0
    · rw [if_pos z, decide_eq_true z, Bool.true_and, oR_of (sh17 h), c_cset h (by omega), oB_of, oR_of (sh2 h), c_supplyOf (Fr2 h) hs, oB_of]
      by_cases z2 : mI u 3 (24 + s) < psm (mI u 18) k 8 0 0
      · rw [if_pos z2, decide_eq_true z2]
        exact ih (k + 1) b (by omega) hb
      · rw [if_neg z2, decide_eq_false z2, oR_of (sh17 h), c_more h (by omega) hb, oB_of]
        cases hp : pbt (mI u 18) b k with
        | false => exact ih (k + 1) b (by omega) hb
        | true => exact ih (k + 1) k (by omega) (by omega)
    · rw [if_neg z, decide_eq_false z]
      exact ih (k + 1) b (by omega) hb
set_option maxRecDepth 100000 in
theorem m_pgo {u : Mm} (h : hSh u) {s x : Nat} (hs : s < 2) {w : Int32} {N : Nat} : ∀ (r k b : Nat), k + r = 256 → b < 256 → rX9_pushed_114 (N + r + 1) u 45 (nI s) w (nI x) (nI b) (nI k) = some (if w = 0 then nI (pc (pgo (mI u 67) x (mI u 47 (31 + s)) r k b)) else if w = 1 then psm (mI u 67) (pgo (mI u 67) x (mI u 47 (31 + s)) r k b) 8 0 0 else nI (pgo (mI u 67) x (mI u 47 (31 + s)) r k b), u) := by
  intro r
  induction r with
  | zero =>
    intro k b hk hb
    have e : k = 256 := by omega
    subst e
    show bX9_pushed_114 _ u 45 (nI s) w (nI x) (nI b) (nI 256) = _
    unfold bX9_pushed_114 bX9_pushed_242
    rw [if_pos (by decide)]
    by_cases w0 : w = 0
    · rw [if_pos w0, if_pos w0, m_ones hb, oB_of]; rfl
    · rw [if_neg w0, if_neg w0]
      by_cases w1 : w = 1
      · rw [if_pos w1, if_pos w1, oR_of (sh45 h), m_prices h hb, oB_of]; rfl
      · rw [if_neg w1, if_neg w1]; rfl
  | succ r ih =>
    intro k b hk hb
    have e31 : (31 : Int32) + nI s = nI (31 + s) := nI_add 31 s
    show bX9_pushed_114 (rX9_pushed_114 (N + r + 1)) u 45 (nI s) w (nI x) (nI b) (nI k) = _
    unfold bX9_pushed_114 bX9_pushed_153 bX9_pushed_154 bX9_pushed_199 bX9_pushed_204 bX9_pushed_206 pgo
    rw [if_neg (show ¬ (256 : Int32) ≤ nI k from nI_ge (b := 256) (by omega) (by decide)), nI_1]
    have no : oB (fX9_ones u (nI k)) (fun v10 u11 => oB (fX9_ones u11 (nI b)) (fun v12 u13 => oI (v10 - v12) (fun v14 => (if (0 : Int32) = 0 then rX9_pushed_114 (N + r + 1) u13 45 (nI s) w (nI x) (nI b) (nI (k + 1)) else (if 0 < (v14 : Int32) then rX9_pushed_114 (N + r + 1) u13 45 (nI s) w (nI x) (nI k) (nI (k + 1)) else (if (v14 : Int32) = 0 then oR u13 45 9 (oB (fX9_pricesOf u13 45 (nI k)) (fun v15 u16 => oR u16 45 9 (oB (fX9_pricesOf u16 45 (nI b)) (fun v17 u18 => (if (v17 : Int32) ≤ v15 then rX9_pushed_114 (N + r + 1) u18 45 (nI s) w (nI x) (nI b) (nI (k + 1)) else rX9_pushed_114 (N + r + 1) u18 45 (nI s) w (nI x) (nI k) (nI (k + 1))))))) else rX9_pushed_114 (N + r + 1) u13 45 (nI s) w (nI x) (nI b) (nI (k + 1)))))))) = rX9_pushed_114 (N + r + 1) u 45 (nI s) w (nI x) (nI b) (nI (k + 1)) := by
      rw [m_ones (by omega), oB_of, m_ones hb, oB_of, oI_of, if_pos rfl]
    by_cases z : nI k &&& (nI x ^^^ (-1)) = 0
    · rw [if_pos z, decide_eq_true z, Bool.true_and, oR_of (sh45 h), m_prices h (by omega), oB_of, oK_of (sh45 h), rf45_3 h, oNn_of, e31, oA_k (sh47 h) (by omega) (by decide), oI_of, clm (by omega)]
      by_cases z2 : mI u 47 (31 + s) < psm (mI u 67) k 8 0 0
      · rw [if_pos z2, decide_eq_true z2, no]
        exact ih (k + 1) b (by omega) hb
      · rw [if_neg z2, decide_eq_false z2, m_ones (by omega), oB_of, m_ones hb, oB_of, oI_of, if_neg (by decide)]
        unfold pbt
        by_cases y : 0 < nI (pc k) - nI (pc b)
        · rw [if_pos y, decide_eq_true y, Bool.true_or]
          exact ih (k + 1) k (by omega) (by omega)
        · rw [if_neg y, decide_eq_false y, Bool.false_or]
          by_cases y2 : nI (pc k) - nI (pc b) = 0
          · rw [if_pos y2, decide_eq_true y2, Bool.true_and, oR_of (sh45 h), m_prices h (by omega), oB_of, oR_of (sh45 h), m_prices h hb, oB_of]
            by_cases y3 : psm (mI u 67) k 8 0 0 < psm (mI u 67) b 8 0 0
            · rw [if_neg (Int32.not_le.mpr y3), decide_eq_true y3]
              exact ih (k + 1) k (by omega) (by omega)
            · rw [if_pos (Int32.not_lt.mp y3), decide_eq_false y3]
              exact ih (k + 1) b (by omega) hb
          · rw [if_neg y2, decide_eq_false y2, Bool.false_and]
            exact ih (k + 1) b (by omega) hb
    · rw [if_neg z, decide_eq_false z, no]
      exact ih (k + 1) b (by omega) hb
set_option maxRecDepth 100000 in
theorem pgo_congr {f g : Nat → Int32} (h : ∀ w, w < 8 → f w = g w) {x : Nat} {sup : Int32} : ∀ r k b, pgo f x sup r k b = pgo g x sup r k b
  | 0, _, _ => rfl
  | r + 1, k, b => by
    unfold pgo pbt
    rw [psm_congr h 8 0 0 (by decide), psm_congr h 8 0 0 (by decide)]
    exact pgo_congr h r (k + 1) _
/-- the open columns -/
def opB (row : Nat → Int32) (Bv : Nat → Bool) (s k : Nat) : Bool := !Bv k && goesB row s k
set_option maxRecDepth 100000 in
theorem c_open {u m : Mm} {q : Option Nat} (hB : JB 2 u m) (hQ : JQ u q) {s : Nat} (hs : s < 2) {V : Nat → Int32} {Bv : Nat → Bool} (hV : ∀ k, k < 8 → (∀ c, CqF u c → (∃ c', fX7_costOf c 13 q 2 (nI s) (nI k) = some (V k, c') ∧ CsF c c') ∧ ∃ c', fX7_isBarred c 13 2 (nI s) (nI k) = some (if Bv k = true then 1 else 0, c') ∧ CsF c c')) {N : Nat} : ∀ (r k x : Nat) (c : Mm), k + r = 8 → x < 256 → CqF u c → (∀ w, w < k → mI c 18 w = V w) → ∃ c', CqF u c' ∧ (∀ w, w < 8 → mI c' 18 w = V w) ∧ rX2_columnsToPush_13 (N + r + 1) c 17 (nI s) 2 (nI x) (nI k) = rX2_columnsToPush_98 hwF c' 17 (nI s) 2 (nI (whN (opB (mI m 47) Bv s) r k x)) 0 1 ∧ whN (opB (mI m 47) Bv s) r k x < 256 := by
  have hS := hB.1
  intro r
  induction r with
  | zero =>
    intro k x c hk hx hc hw
    have e : k = 8 := by omega
    subst e
    refine ⟨c, hc, hw, ?_, hx⟩
    show bX2_columnsToPush_13 _ c 17 (nI s) 2 (nI x) (nI 8) = _
    unfold bX2_columnsToPush_13
    rw [if_pos (by decide)]; rfl
  | succ r ih =>
    intro k x c hk hx hc hw
    have hcS := CqF_hSh hc hS
    have k8 : k < 8 := by omega
    obtain ⟨⟨c1, a1, a2⟩, -⟩ := hV k k8 c hc
    have hc1 := CsF_hSh a2 hcS
    have fr1 : CqF u (wI c1 18 (upd (mI c1 18) k (V k))) := CqF_trans hc (CqF_trans (CqF_CsF a2) CqF_w)
    have w1 : ∀ w, w < k + 1 → mI (wI c1 18 (upd (mI c1 18) k (V k))) 18 w = V w := by
      intro w hw'
      show upd (mI c1 18) k (V k) w = _
      by_cases e : w = k
      · subst e; rw [pk_us]
      · rw [pk_un e, a2.2.2.2 18 (by decide)]; exact hw w (by omega)
    have h2 : hSh (wI c1 18 (upd (mI c1 18) k (V k))) := hc1
    have hFR : FR (mI u 3) (mI m 47) := JB_FR hB
    have e3 : mI (wI c1 18 (upd (mI c1 18) k (V k))) (2 + 1) = mI u 3 := fr1.2.2.2 3 (by decide) (by decide)
    have hQc : JQ c q := by
      unfold JQ at hQ ⊢
      rw [hc.2.2.2 1 (by decide) (by decide), hc.2.2.1]; exact hQ
    have ew : winsG (mI u 3) s k = winsB (mI m 47) s k := winsGB hFR hs k8
    show ∃ c', _ ∧ _ ∧ bX2_columnsToPush_13 (rX2_columnsToPush_13 (N + r + 1)) c 17 (nI s) 2 (nI x) (nI k) = _ ∧ _
    unfold bX2_columnsToPush_13 bX2_columnsToPush_86 whN
    rw [if_neg (show ¬ (8 : Int32) ≤ nI k from nI_ge (b := 8) k8 (by decide)), oK_of (sh17 hcS), rf17_2 hcS, oNn_of, oK_of (sh17 hcS), rf17_1 hcS, oNn_of, oK_of (sh17 hcS), rf17_0 hcS, oNn_of, oR_of (sh1 hcS), c_lif hcS hQc, oB_of, oR_of (sh13 hcS), a1, oB_of, oA_k (sh18 hc1) (by omega) (by decide), oU_of, clm (by omega), oR_of (sh2 h2), c_isStronger (Fr2 h2) hs k8, oB_of, e3, nI_1]
    have nogo : opB (mI m 47) Bv s k = false → ∀ c2, CqF u c2 → (∀ w, w < k + 1 → mI c2 18 w = V w) → ∃ c', CqF u c' ∧ (∀ w, w < 8 → mI c' 18 w = V w) ∧ rX2_columnsToPush_13 (N + r + 1) c2 17 (nI s) 2 (nI x) (nI (k + 1)) = rX2_columnsToPush_98 hwF c' 17 (nI s) 2 (nI (whN (opB (mI m 47) Bv s) r (k + 1) (if opB (mI m 47) Bv s k = true then x ||| 2 ^ k else x))) 0 1 ∧ whN (opB (mI m 47) Bv s) r (k + 1) (if opB (mI m 47) Bv s k = true then x ||| 2 ^ k else x) < 256 := by
      intro ho c2 f2 w2
      rw [ho, if_neg (by decide)]
      exact ih (k + 1) x c2 (by omega) hx f2 w2
    by_cases z : mI u 3 (8 + 8 * (1 - s) + k) < mI u 3 (8 + 8 * s + k)
    · rw [if_pos z, if_neg (by decide), oR_of (sh2 h2), c_canGoOn (Fr2 h2) hs k8, oB_of, e3]
      have ewt : winsB (mI m 47) s k = true := by rw [← ew]; exact decide_eq_true z
      by_cases z2 : (s = 0 ∧ mI u 3 k < 3) ∨ (s = 1 ∧ -3 < mI u 3 k)
      · have eg : goesB (mI m 47) s k = true := by
          unfold goesB
          rw [ewt, Bool.true_and]
          rw [hFR.1 k (by omega)] at z2
          exact decide_eq_true z2
        rw [if_pos z2, if_neg (by decide), oK_of (sh17 h2), rf17_1 h2, oNn_of, oR_of (sh13 h2)]
        obtain ⟨-, c3, b1, b2⟩ := hV k k8 _ fr1
        rw [b1, oB_of]
        have fr3 := CqF_trans fr1 (CqF_CsF b2)
        have w3 : ∀ w, w < k + 1 → mI c3 18 w = V w := fun w hw' => by rw [b2.2.2.2 18 (by decide)]; exact w1 w hw'
        cases hb : Bv k with
        | false =>
          have ho : opB (mI m 47) Bv s k = true := by unfold opB; rw [hb, eg]; rfl
          rw [if_pos (by decide), oI_of, or_nI x hx k k8, ho, if_pos rfl]
          exact ih (k + 1) (x ||| 2 ^ k) c3 (by omega) (or_lt hx k8) fr3 w3
        | true =>
          have ho : opB (mI m 47) Bv s k = false := by unfold opB; rw [hb]; rfl
          rw [if_neg (by decide)]
          exact nogo ho c3 fr3 w3
      · have ho : opB (mI m 47) Bv s k = false := by
          unfold opB goesB
          rw [hFR.1 k (by omega)] at z2
          rw [decide_eq_false z2, Bool.and_false, Bool.and_false]
        rw [if_neg z2, if_pos rfl]
        exact nogo ho _ fr1 w1
    · have ho : opB (mI m 47) Bv s k = false := by
        unfold opB goesB
        rw [← ew]
        unfold winsG
        rw [decide_eq_false z, Bool.false_and, Bool.and_false]
      rw [if_neg z, if_pos rfl]
      exact nogo ho _ fr1 w1
set_option maxRecDepth 100000 in
theorem m_open {m : Mm} (hS : hSh m) {s : Nat} (hs : s < 2) {V : Nat → Int32} {Bv : Nat → Bool} (hV : ∀ k, k < 8 → (∀ n, MqF m n → (∃ n', fX9_costsOf n 45 (nI s) (nI k) = some (V k, n') ∧ MF n n') ∧ ∃ n', fX9_isBarred n 45 (nI s) (nI k) = some (if Bv k = true then 1 else 0, n') ∧ MF n n')) {w : Int32} {N : Nat} : ∀ (r k x : Nat) (n : Mm), k + r = 8 → x < 256 → MqF m n → (∀ w, w < k → mI n 67 w = V w) → ∃ n', MqF m n' ∧ (∀ w, w < 8 → mI n' 67 w = V w) ∧ rX9_pushed_31 (N + r + 1) n 45 (nI s) w (nI x) (nI k) = rX9_pushed_114 hwF n' 45 (nI s) w (nI (whN (opB (mI m 47) Bv s) r k x)) 0 1 := by
  intro r
  induction r with
  | zero =>
    intro k x n hk hx hn hw
    have e : k = 8 := by omega
    subst e
    refine ⟨n, hn, hw, ?_⟩
    show bX9_pushed_31 _ n 45 (nI s) w (nI x) (nI 8) = _
    unfold bX9_pushed_31
    rw [if_pos (by decide)]; rfl
  | succ r ih =>
    intro k x n hk hx hn hw
    have hnS := MqF_hSh hn hS
    have k8 : k < 8 := by omega
    obtain ⟨⟨n1, a1, a2⟩, -⟩ := hV k k8 n hn
    have hn1 := MF_hSh a2 hnS
    have fr1 : MqF m (wI n1 67 (upd (mI n1 67) k (V k))) := MqF_trans hn (MqF_trans (MqF_MF a2) MqF_w)
    have h2 : hSh (wI n1 67 (upd (mI n1 67) k (V k))) := hn1
    obtain ⟨-, n3, b1, b2⟩ := hV k k8 _ fr1
    have hn3 := MF_hSh b2 h2
    have fr3 := MqF_trans fr1 (MqF_MF b2)
    have w3 : ∀ w, w < k + 1 → mI n3 67 w = V w := by
      intro w hw'
      rw [b2.2.2.2.1 67 (by decide)]
      show upd (mI n1 67) k (V k) w = _
      by_cases e : w = k
      · subst e; rw [pk_us]
      · rw [pk_un e, a2.2.2.2.1 67 (by decide)]; exact hw w (by omega)
    have e47 : mI n3 47 = mI m 47 := fr3.2.2.2.1 47 (by decide) (by decide)
    show ∃ n', _ ∧ _ ∧ bX9_pushed_31 (rX9_pushed_31 (N + r + 1)) n 45 (nI s) w (nI x) (nI k) = _
    unfold bX9_pushed_31 bX9_pushed_99 bX9_pushed_100 whN
    rw [if_neg (show ¬ (8 : Int32) ≤ nI k from nI_ge (b := 8) k8 (by decide)), oK_of (sh45 hnS), rf45_42 hnS, oNn_of, oR_of (sh45 hnS), a1, oB_of, oA_k (sh67 hn1) (by omega) (by decide), oU_of, clm (by omega), oR_of (sh45 h2), b1, oB_of, nI_1]
    have or0 : nI x ||| 0 = nI x := by rw [show (0 : Int32) = nI 0 from rfl, nI_or, Nat.or_zero]
    have nogo : opB (mI m 47) Bv s k = false → ∃ n', MqF m n' ∧ (∀ w, w < 8 → mI n' 67 w = V w) ∧ oI (nI x ||| 0) (fun v29 => rX9_pushed_31 (N + r + 1) n3 45 (nI s) w v29 (nI (k + 1))) = rX9_pushed_114 hwF n' 45 (nI s) w (nI (whN (opB (mI m 47) Bv s) r (k + 1) (if opB (mI m 47) Bv s k = true then x ||| 2 ^ k else x))) 0 1 := by
      intro ho
      rw [ho, if_neg (by decide), oI_of, or0]
      exact ih (k + 1) x n3 (by omega) hx fr3 w3
    cases hb : Bv k with
    | true =>
      have ho : opB (mI m 47) Bv s k = false := by unfold opB; rw [hb]; rfl
      rw [if_neg (by decide)]
      exact nogo ho
    | false =>
      rw [if_pos (by decide), oR_of (sh45 hn3), m_menOf hn3 hs k8, oB_of, oR_of (sh45 hn3), i1s hs, m_menOf hn3 (by omega) k8, oB_of, e47]
      by_cases z : mI m 47 (15 + 8 * (1 - s) + k) < mI m 47 (15 + 8 * s + k)
      · have ewt : winsB (mI m 47) s k = true := decide_eq_true z
        rw [if_neg (Int32.not_le.mpr z), oR_of (sh45 hn3), m_canGoOn hn3 hs k8, oB_of, e47]
        by_cases z2 : (s = 0 ∧ mI m 47 (7 + k) < 3) ∨ (s = 1 ∧ -3 < mI m 47 (7 + k))
        · have ho : opB (mI m 47) Bv s k = true := by unfold opB goesB; rw [hb, ewt, decide_eq_true z2]; rfl
          rw [if_pos z2, if_neg (by decide), oI_of, or_nI x hx k k8, ho, if_pos rfl]
          exact ih (k + 1) (x ||| 2 ^ k) n3 (by omega) (or_lt hx k8) fr3 w3
        · have ho : opB (mI m 47) Bv s k = false := by unfold opB goesB; rw [decide_eq_false z2, Bool.and_false, Bool.and_false]
          rw [if_neg z2, if_pos rfl]
          exact nogo ho
      · have ho : opB (mI m 47) Bv s k = false := by unfold opB goesB winsB; rw [decide_eq_false z, Bool.false_and, Bool.and_false]
        rw [if_pos (Int32.not_lt.mp z)]
        exact nogo ho
set_option maxRecDepth 100000 in
theorem Scr_CqF {c c' : Mm} (h : CqF c c') : Scr c c' := by
  refine ⟨h.1, h.2.1, h.2.2.1, fun a h1 _ _ => h.2.2.2 a (fun e => by rw [e] at h1; cases h1) (fun e => by rw [e] at h1; cases h1), fun k _ => ?_, fun i _ => ?_⟩
  · rw [h.2.2.2 45 (by decide) (by decide)]
  · rw [h.2.2.2 50 (by decide) (by decide)]
set_option maxRecDepth 100000 in
theorem Scr_MqF {c c' : Mm} (h : MqF c c') : Scr c c' := by
  refine ⟨h.1, h.2.1, h.2.2.1, fun a h1 h2 _ => h.2.2.2.1 a h2 (fun e => by rw [e] at h1; cases h1), fun k hk => ?_, fun i _ => ?_⟩
  · exact h.2.2.2.2 k (fun e => by rw [e] at hk; revert hk; decide) (fun e => by rw [e] at hk; revert hk; decide)
  · rw [h.2.2.2.1 50 (by decide) (by decide)]
set_option maxRecDepth 100000 in
theorem s29 : hwS_29 (Rel LR) := by
  intro x w u h
  have hS := h.1
  by_cases cx : 0 ≤ x ∧ x ≤ 1
  · by_cases cw : 0 ≤ w ∧ w ≤ 2
    · obtain ⟨s, hs, rfl⟩ := sdI cx
      obtain ⟨q, hB, hL, hQ⟩ := Rel_J h
      have cls1 : ∀ m, JB 2 u m → JL u m q → ∃ (V : Nat → Int32) (c' : Mm) (X : Nat), X < 256 ∧ CqF u c' ∧ (∀ w, w < 8 → mI c' 18 w = V w) ∧ fX2_columnsToPush u 17 (nI s) = some (nI (pgo V X (mI u 3 (24 + s)) 255 1 0), c') ∧ (∀ n, MqF m n → hSh n → mI n 47 = mI m 47 → n = m → ∃ n', MqF m n' ∧ (∀ w, w < 8 → mI n' 67 w = V w) ∧ rX9_pushed_31 hwF m 45 (nI s) w 0 0 = rX9_pushed_114 hwF n' 45 (nI s) w (nI X) 0 1) := by
        intro m B1 L1
        obtain ⟨V, Bv, hV⟩ := pushV B1 L1 hQ hs
        obtain ⟨c', a1, a2, a3, a4⟩ := c_open B1 hQ hs (fun k hk => (hV k hk).1) (N := 999991) 8 0 0 u (by decide) (by decide) CqF_rfl (fun w hw => absurd hw (by omega))
        have hc' := CqF_hSh a1 hS
        refine ⟨V, c', _, a4, a1, a2, ?_, fun n hn hnS e47 en => ?_⟩
        · unfold fX2_columnsToPush
          rw [oK_of (sh17 hS), rf17_0 hS, oNn_of, oK_of (sh1 hS), rf1_0 hS, oNn_of]
          refine a3.trans ?_
          have := c_pgo hc' (s := s) (x := whN (opB (mI m 47) Bv s) 8 0 0) hs (N := 999744) 255 1 0 (by decide) (by decide)
          refine this.trans ?_
          rw [pgo_congr a2, a1.2.2.2 3 (by decide) (by decide)]
        · obtain ⟨n', b1, b2, b3⟩ := m_open B1.2.1 hs (fun k hk => (hV k hk).2) (w := w) (N := 999991) 8 0 0 m (by decide) (by decide) MqF_rfl (fun w hw => absurd hw (by omega))
          exact ⟨n', b1, b2, b3⟩
      obtain ⟨V0, c0, X0, -, f0, -, g0, -⟩ := cls1 u hB hL
      have hc0 := CqF_hSh f0 hS
      have e47 : mI (mT c0) 47 = mI u 47 := f0.2.2.2 47 (by decide) (by decide)
      have e20 : mI (mT c0) 45 20 = mI u 45 20 := by show mI c0 45 20 = _; rw [f0.2.2.2 45 (by decide) (by decide)]
      have B1 := JB_m hB (show hSh (mT c0) from hc0) e47 e20
      have L1 := JL_m hL e47
      obtain ⟨V, c', X, X8, f1, f2, g1, mm⟩ := cls1 (mT c0) B1 L1
      obtain ⟨x1, x2⟩ := some2 g1 g0
      subst x2
      obtain ⟨n', b1, b2, b3⟩ := mm (mT c') MqF_rfl B1.2.1 rfl rfl
      have hn' := MqF_hSh b1 B1.2.1
      have lt := pgo_lt (g := V) (x := X) (sup := mI u 3 (24 + s)) 255 1 0 (by decide) (by decide)
      have mend := m_pgo hn' (s := s) (x := X) hs (w := w) (N := 999744) 255 1 0 (by decide) (by decide)
      rw [pgo_congr b2, b1.2.2.2.1 47 (by decide) (by decide), e47, ← JB_sup hB hs, psm_congr b2 8 0 0 (by decide)] at mend
      refine ⟨if w = 0 then nI (pc (pgo V X (mI u 3 (24 + s)) 255 1 0)) else if w = 1 then psm V (pgo V X (mI u 3 (24 + s)) 255 1 0) 8 0 0 else nI (pgo V X (mI u 3 (24 + s)) 255 1 0), c', n', ?_, hR45_Rel hc0, ?_, Rel_Scr LRf_LR h (Scr_trans (Scr_CqF f0) (Scr_trans Scr_mT (Scr_MqF b1)))⟩
      · show fX8_pushed u 0 (nI s) w = _
        unfold fX8_pushed bX8_pushed_48
        rw [c_isSide, oB_of, if_pos cx, if_neg (by decide), c_within, oB_of, if_pos cw, if_neg (by decide), oK_of (sh0 hS), rf0_2 hS, oNn_of, oR_of (sh17 hS), g1, oB_of]
        by_cases w1 : w = 1
        · have w0 : ¬ w = 0 := by rw [w1]; decide
          rw [if_pos w1, if_neg w0, if_pos w1, oK_of (sh0 hc0), rf0_2 hc0, oNn_of, oR_of (sh17 hc0), c_cset hc0 lt, oB_of, psm_congr f2 8 0 0 (by decide)]
        · rw [if_neg w1, if_neg w1]
          have := c_count (u := c') (b := some (pgo V X (mI u 3 (24 + s)) 255 1 0)) (fun y hy => by cases hy; exact lt) (x := w)
          rw [show nI (pgo V X (mI u 3 (24 + s)) 255 1 0) = bi (some (pgo V X (mI u 3 (24 + s)) 255 1 0)) from rfl, this, oB_of]
          rfl
      · show fX9_pushed c' 45 (nI s) w = _
        unfold fX9_pushed
        rw [oK_of (sh45 hc0), oT, m_isSide, oB_of, if_pos cx, if_neg (by decide), m_in2, oB_of, if_pos cw, if_neg (by decide)]
        exact b3.trans mend
    · refine ⟨-1, u, mT u, ?_, hR45_Rel hS, ?_, Rel_mT LRf_LR h⟩
      · show fX8_pushed u 0 x w = _
        unfold fX8_pushed
        rw [c_isSide, oB_of, if_pos cx, if_neg (by decide), c_within, oB_of, if_neg cw, if_pos rfl]
      · show fX9_pushed u 45 x w = _
        unfold fX9_pushed
        rw [oK_of (sh45 hS), oT, m_isSide, oB_of, if_pos cx, if_neg (by decide), m_in2, oB_of, if_neg cw, if_pos rfl]
  · refine ⟨-1, u, mT u, ?_, hR45_Rel hS, ?_, Rel_mT LRf_LR h⟩
    · show fX8_pushed u 0 x w = _
      unfold fX8_pushed
      rw [c_isSide, oB_of, if_neg cx, if_pos rfl]
    · show fX9_pushed u 45 x w = _
      unfold fX9_pushed
      rw [oK_of (sh45 hS), oT, m_isSide, oB_of, if_neg cx, if_pos rfl]
