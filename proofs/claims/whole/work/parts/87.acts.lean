/-! ===== the acts, on a front of the one and on the other's row ===== -/
/-- a row's part that acts may change -/
def fP (i : Nat) : Prop := i = 4 ∨ (7 ≤ i ∧ i < 35)
def AF (f : Nat) (c c' : Mm) : Prop := mQ c' = mQ c ∧ mK c' = mK c ∧ mR c' = mR c ∧ (∀ a, a ≠ 16 → a ≠ f + 1 → mI c' a = mI c a)
def AM (m m' : Mm) : Prop := mQ m' = mQ m ∧ mK m' = mK m ∧ mR m' = mR m ∧ (∀ a, a ≠ 45 → a ≠ 47 → mI m' a = mI m a) ∧ (∀ i, ¬ fP i → mI m' 47 i = mI m 47 i) ∧ (∀ k, k ≠ 34 → k ≠ 38 → mI m' 45 k = mI m 45 k) ∧ (∀ k, k ≠ 39 → k ≠ 40 → mL m' 45 k = mL m 45 k)
set_option maxRecDepth 100000 in
theorem AF_rfl {f : Nat} {c : Mm} : AF f c c := ⟨rfl, rfl, rfl, fun _ _ _ => rfl⟩
set_option maxRecDepth 100000 in
theorem AF_trans {f : Nat} {c d e : Mm} (h : AF f c d) (k : AF f d e) : AF f c e := ⟨k.1.trans h.1, k.2.1.trans h.2.1, k.2.2.1.trans h.2.2.1, fun a h1 h2 => (k.2.2.2 a h1 h2).trans (h.2.2.2 a h1 h2)⟩
set_option maxRecDepth 100000 in
theorem AF_CsF {f : Nat} {c d : Mm} (h : CsF c d) : AF f c d := ⟨h.1, h.2.1, h.2.2.1, fun a h1 _ => h.2.2.2 a h1⟩
set_option maxRecDepth 100000 in
theorem AF_w {f : Nat} {c : Mm} {g : Nat → Int32} : AF f c (wI c (f + 1) g) := ⟨rfl, rfl, rfl, fun a _ h => by rw [mI_wI, if_neg h]⟩
set_option maxRecDepth 100000 in
theorem AM_rfl {m : Mm} : AM m m := ⟨rfl, rfl, rfl, fun _ _ _ => rfl, fun _ _ => rfl, fun _ _ _ => rfl, fun _ _ _ => rfl⟩
set_option maxRecDepth 100000 in
theorem AM_trans {m n o : Mm} (h : AM m n) (k : AM n o) : AM m o := ⟨k.1.trans h.1, k.2.1.trans h.2.1, k.2.2.1.trans h.2.2.1, fun a h1 h2 => (k.2.2.2.1 a h1 h2).trans (h.2.2.2.1 a h1 h2), fun a h1 => (k.2.2.2.2.1 a h1).trans (h.2.2.2.2.1 a h1), fun a h1 h2 => (k.2.2.2.2.2.1 a h1 h2).trans (h.2.2.2.2.2.1 a h1 h2), fun a h1 h2 => (k.2.2.2.2.2.2 a h1 h2).trans (h.2.2.2.2.2.2 a h1 h2)⟩
set_option maxRecDepth 100000 in
theorem AM_MF {m n : Mm} (h : MF m n) : AM m n := ⟨h.1, h.2.1, h.2.2.1, fun a h1 _ => h.2.2.2.1 a h1, fun i _ => by rw [h.2.2.2.1 47 (by decide)], h.2.2.2.2.1, h.2.2.2.2.2.2⟩
set_option maxRecDepth 100000 in
theorem AM_w {m : Mm} {r : Nat → Int32} (h : ∀ i, ¬ fP i → r i = mI m 47 i) : AM m (wI m 47 r) := ⟨rfl, rfl, rfl, fun a _ h2 => by rw [mI_wI, if_neg h2], fun i hi => h i hi, fun _ _ _ => rfl, fun _ _ _ => rfl⟩
set_option maxRecDepth 100000 in
theorem AM_hSh {m m' : Mm} (k : AM m m') (h : hSh m) : hSh m' := by
  unfold hSh at h ⊢
  rw [k.1, k.2.1, k.2.2.1]
  exact h
set_option maxRecDepth 100000 in
theorem AF_hSh {f : Nat} {m m' : Mm} (k : AF f m m') (h : hSh m) : hSh m' := by
  unfold hSh at h ⊢
  rw [k.1, k.2.1, k.2.2.1]
  exact h
set_option maxRecDepth 100000 in
theorem JL_act {f : Nat} {c m c' m' : Mm} {q : Option Nat} (hf : f = 2 ∨ f = 40) (h : JL c m q) (k : AF f c c') (l : AM m m') : JL c' m' q := by
  have n3 : ¬ fP 3 := by unfold fP; omega
  rcases h with ⟨h1, h2⟩ | ⟨i, t, A, h1, h2, h3, h4, h5, h6, h7⟩
  · exact Or.inl ⟨h1, by rw [l.2.2.2.2.1 3 n3]; exact h2⟩
  · refine Or.inr ⟨i, t, A, h1, h2, h3, by rw [l.2.2.2.2.1 3 n3]; exact h4, CLaw_at h5 (fun a a1 a2 => ⟨by rw [k.2.1], by rw [k.2.2.1], k.2.2.2 a (by omega) (by omega)⟩), ?_, h7⟩
    have e : (fun x => mI m' 47 (130 + 900 * i + x)) = (fun x => mI m 47 (130 + 900 * i + x)) := funext (fun x => l.2.2.2.2.1 _ (by unfold fP; omega))
    rw [e]; exact h6
set_option maxRecDepth 100000 in
theorem JQ_act {f : Nat} {c c' : Mm} {q : Option Nat} (hf : f = 2 ∨ f = 40) (h : JQ c q) (k : AF f c c') : JQ c' q := by
  unfold JQ
  rw [k.2.2.2 1 (by decide) (by omega), k.2.2.1]
  exact h
/-- the one's front and the other's row -/
def FR (g row : Nat → Int32) : Prop := (∀ i, i < 28 → g i = row (7 + i)) ∧ g 28 = row 4
set_option maxRecDepth 100000 in
theorem FR_upd {g row : Nat → Int32} {p : Nat} {x : Int32} (h : FR g row) (hp : p < 28) : FR (upd g p x) (upd row (7 + p) x) := by
  refine ⟨fun i hi => ?_, ?_⟩
  · by_cases c : i = p
    · subst c; rw [pk_us, pk_us]
    · rw [pk_un c, pk_un (by omega)]; exact h.1 i hi
  · rw [pk_un (by omega), pk_un (by omega)]; exact h.2
set_option maxRecDepth 100000 in
theorem FR_day {g row : Nat → Int32} {x : Int32} (h : FR g row) : FR (upd g 28 x) (upd row 4 x) := by
  refine ⟨fun i hi => ?_, by rw [pk_us, pk_us]⟩
  rw [pk_un (by omega), pk_un (by omega)]; exact h.1 i hi
set_option maxRecDepth 100000 in
theorem JB_FR {f : Nat} {c m : Mm} (h : JB f c m) : FR (mI c (f + 1)) (mI m 47) := ⟨h.2.2.2.2.2.1, h.2.2.2.2.2.2.1⟩
set_option maxRecDepth 100000 in
theorem JB_put {f : Nat} {c m : Mm} (h : JB f c m) {g r : Nat → Int32} (hg : FR g r) (hr : ∀ i, ¬ fP i → r i = mI m 47 i) (hR : Rrg r) : JB f (wI c (f + 1) g) (wI m 47 r) := by
  obtain ⟨h1, h2, h3, h4, h5, h6, h7, h8, h9, h10, h11⟩ := h
  have e6 : r 6 = mI m 47 6 := hr 6 (by unfold fP; omega)
  refine ⟨h1, h2, h3, h4, h5, ?_, ?_, ?_, fun i hi => ?_, fun i hi => ?_, hR⟩
  · show ∀ i, i < 28 → (if f + 1 = f + 1 then g else mI c (f + 1)) i = r (7 + i)
    rw [if_pos rfl]; exact hg.1
  · show (if f + 1 = f + 1 then g else mI c (f + 1)) 28 = r 4
    rw [if_pos rfl]; exact hg.2
  · show (if 1 = f + 1 then g else mI c 1) 12 = r 6
    rw [if_neg (by omega), e6]; exact h8
  · show (if 4 = f + 1 then g else mI c 4) i = r (35 + i)
    rw [if_neg (by omega), hr (35 + i) (by unfold fP; omega)]; exact h9 i hi
  · show (if 5 = f + 1 then g else mI c 5) i = r (51 + i)
    rw [if_neg (by omega), hr (51 + i) (by unfold fP; omega)]; exact h10 i hi
set_option maxRecDepth 100000 in
/-- ranges, as numbers -/
theorem rr {row : Nat → Int32} (h : Rrg row) {i : Nat} (hi : i < 127) {a b : Int} (e : rlh i = (a, b)) : a ≤ (row i).toInt ∧ (row i).toInt ≤ b := by
  have := h.1 i hi
  rw [e] at this
  exact this
set_option maxRecDepth 100000 in
theorem rl_line : ∀ k, k < 8 → rlh (7 + k) = (-3, 3) := by decide +kernel
set_option maxRecDepth 100000 in
theorem rl_men : ∀ s, s < 2 → ∀ k, k < 8 → rlh (15 + 8 * s + k) = (0, 99) := by decide +kernel
set_option maxRecDepth 100000 in
theorem rl_sup : ∀ s, s < 2 → rlh (31 + s) = (0, 999) := by decide +kernel
set_option maxRecDepth 100000 in
theorem rl_tem : ∀ s, s < 2 → rlh (33 + s) = (0, 99) := by decide +kernel
set_option maxRecDepth 100000 in
theorem subI {x y : Int32} (h1 : -2147483648 ≤ x.toInt - y.toInt) (h2 : x.toInt - y.toInt < 2147483648) : (x - y).toInt = x.toInt - y.toInt := by
  rw [Int32.toInt_sub]; exact bmod32 h1 h2
set_option maxRecDepth 100000 in
theorem addI2 {x y : Int32} (h1 : -2147483648 ≤ x.toInt + y.toInt) (h2 : x.toInt + y.toInt < 2147483648) : (x + y).toInt = x.toInt + y.toInt := by
  rw [Int32.toInt_add]; exact bmod32 h1 h2
set_option maxRecDepth 100000 in
theorem Rrg_up {row : Nat → Int32} {p : Nat} {v : Int32} (h : Rrg row) (hp : fP p) (hv : rg v (rlh p).1 (rlh p).2) : Rrg (upd row p v) := Rrg_set h hv (by unfold fP at hp; rw [pk_un (by omega), pk_un (by omega)]; exact h.2)
set_option maxRecDepth 100000 in
theorem up_nf {row r0 : Nat → Int32} {p : Nat} {v : Int32} (hp : fP p) (h : ∀ i, ¬ fP i → row i = r0 i) : ∀ i, ¬ fP i → upd row p v i = r0 i := by
  intro i hi
  rw [pk_un (fun e : i = p => hi (by rw [e]; exact hp))]; exact h i hi
set_option maxRecDepth 100000 in
theorem halfR : ∀ n, n ≤ 99 → nI n - nI n / 2 = nI (n - n / 2) := by decide +kernel
set_option maxRecDepth 100000 in
theorem iminS {x : Int32} {h : x ≤ 999} : imin x 999 = x := by unfold imin; rw [if_neg (Int32.not_lt.mpr h)]
section
variable {f : Nat} {c m : Mm} {q : Option Nat} {s k : Nat}
set_option maxRecDepth 100000 in
theorem m_can (h : hSh m) (hs : s < 2) (hk : k < 8) {b : Bool} {m1 m2 : Mm} {v : Int32} (e1 : fX9_isBarred m 45 (nI s) (nI k) = some (if b then 1 else 0, m1)) (h1 : MF m m1) (e2 : fX9_costsOf m1 45 (nI s) (nI k) = some (v, m2)) (h2 : MF m1 m2) : fX9_canAttack m 45 (nI s) (nI k) = some (if b = false ∧ v ≤ mI m 47 (31 + s) ∧ 0 < mI m 47 (15 + 8 * s + k) then 1 else 0, if b then m1 else m2) := by
  have hm1 := MF_hSh h1 h
  have hm2 := MF_hSh h2 hm1
  have e31 : (31 : Int32) + nI s = nI (31 + s) := nI_add 31 s
  unfold fX9_canAttack bX9_canAttack_41
  rw [oR_of (sh45 h), e1, oB_of]
  cases b with
  | true => rw [if_neg (by decide), oZ0, if_neg (fun z => by cases z.1)]; rfl
  | false =>
    rw [if_pos (by decide), oK_of (sh45 hm1), rf45_3 hm1, oNn_of, e31, oA_k (sh47 hm1) (by omega) (by decide), oI_of, clm (by omega), oR_of (sh45 hm1), e2, oB_of, h1.2.2.2.1 47 (by decide)]
    by_cases z1 : mI m 47 (31 + s) < v
    · rw [if_pos z1, oZ0, if_neg (fun z => absurd z1 (Int32.not_lt.mpr z.2.1))]; rfl
    · rw [if_neg z1, oR_of (sh45 hm2), m_menOf hm2 hs hk, oB_of, h2.2.2.2.1 47 (by decide), h1.2.2.2.1 47 (by decide)]
      by_cases z2 : mI m 47 (15 + 8 * s + k) ≤ 0
      · rw [if_pos z2, oZ0, if_neg (fun z => absurd z.2.2 (Int32.not_lt.mpr z2))]; rfl
      · rw [if_neg z2, oZ1, if_pos ⟨rfl, Int32.not_lt.mp z1, Int32.not_le.mp z2⟩]; rfl
/-- the row behind an attack -/
def atR (row : Nat → Int32) (s k : Nat) (v : Int32) (wins goes : Bool) : Nat → Int32 := upd (upd (upd row (31 + s) (row (31 + s) - v)) (15 + 8 * (if wins then 1 - s else s) + k) (row (15 + 8 * (if wins then 1 - s else s) + k) - row (15 + 8 * (if wins then 1 - s else s) + k) / 2)) (7 + k) (row (7 + k) + (if goes then (if s = 0 then 1 else -1) else 0))
def atG (g : Nat → Int32) (s k : Nat) (v : Int32) (wins goes : Bool) : Nat → Int32 := upd (upd (upd g (24 + s) (g (24 + s) - v)) (8 + 8 * (if wins then 1 - s else s) + k) (g (8 + 8 * (if wins then 1 - s else s) + k) - g (8 + 8 * (if wins then 1 - s else s) + k) / 2)) k (g k + (if goes then (if s = 0 then 1 else -1) else 0))
def winsB (row : Nat → Int32) (s k : Nat) : Bool := decide (row (15 + 8 * (1 - s) + k) < row (15 + 8 * s + k))
def goesB (row : Nat → Int32) (s k : Nat) : Bool := winsB row s k && decide ((s = 0 ∧ row (7 + k) < 3) ∨ (s = 1 ∧ -3 < row (7 + k)))
set_option maxRecDepth 100000 in
theorem m_attackIt (h : hSh m) (hs : s < 2) (hk : k < 8) {v : Int32} {m1 : Mm} (e1 : fX9_costsOf m 45 (nI s) (nI k) = some (v, m1)) (h1 : MF m m1) : fX9_attackIt m 45 (nI s) (nI k) = some (if goesB (mI m 47) s k then 1 else 0, wI m1 47 (atR (mI m 47) s k v (winsB (mI m 47) s k) (goesB (mI m 47) s k))) := by
  have hm1 := MF_hSh h1 h
  have er := h1.2.2.2.1 47 (by decide)
  have e31 : (31 : Int32) + nI s = nI (31 + s) := nI_add 31 s
  have e7 : (7 : Int32) + nI k = nI (7 + k) := nI_add 7 k
  have w1 : ∀ g, hSh (wI m1 47 g) := fun _ => hm1
  have tail : ∀ (l : Nat) (go : Bool), l < 2 → bX9_attackIt_76 (wI m1 47 (upd (mI m 47) (31 + s) (mI m 47 (31 + s) - v))) 45 (nI s) (nI k) (if go then 1 else 0) (nI l) 8 15 = some (if go then 1 else 0, wI m1 47 (upd (upd (upd (mI m 47) (31 + s) (mI m 47 (31 + s) - v)) (15 + 8 * l + k) (mI m 47 (15 + 8 * l + k) - mI m 47 (15 + 8 * l + k) / 2)) (7 + k) (mI m 47 (7 + k) + (if go then (if s = 0 then 1 else -1) else 0)))) := by
    intro l go hl
    have r1 : mI (wI m1 47 (upd (mI m 47) (31 + s) (mI m 47 (31 + s) - v))) 47 (15 + 8 * l + k) = mI m 47 (15 + 8 * l + k) := by
      show upd (mI m 47) (31 + s) _ _ = _
      rw [pk_un (by omega)]
    unfold bX9_attackIt_76 bX9_attackIt_129 bX9_attackIt_141
    rw [oI_of, ixM, oK_of (sh45 (w1 _)), rf45_3 (w1 _), oNn_of, oA_k (sh47 (w1 _)) (by omega) (by decide), oI_of, clm (by omega), oK_of (sh45 (w1 _)), oNn_of, oA_k (sh47 (w1 _)) (by omega) (by decide), oI_of, if_pos (by decide), oA_k (sh47 (w1 _)) (by omega) (by decide), oU_of, wI_s, r1, oK_of (sh45 (w1 _)), rf45_3 (w1 _), oNn_of, oI_of, e7, oA_k (sh47 (w1 _)) (by omega) (by decide), oI_of, clm (by omega)]
    have r2 : ∀ x, mI (wI m1 47 (upd (mI (wI m1 47 (upd (mI m 47) (31 + s) (mI m 47 (31 + s) - v))) 47) (15 + 8 * l + k) x)) 47 (7 + k) = mI m 47 (7 + k) := by
      intro x
      show upd (upd (mI m 47) (31 + s) _) (15 + 8 * l + k) x (7 + k) = _
      rw [pk_un (by omega), pk_un (by omega)]
    rw [r2]
    have fin : ∀ (z y : Int32) (ro : Nat → Int32), oA (wI m1 47 ro) 47 10 (nI (7 + k)) (oU (wI (wI m1 47 ro) 47 (upd (mI (wI m1 47 ro) 47) (7 + k) (mI m 47 (7 + k) + y))) (fun u20 => if z = 0 then some ((0 : Int32), u20) else some (1, u20))) = some (if z = 0 then 0 else 1, wI m1 47 (upd ro (7 + k) (mI m 47 (7 + k) + y))) := by
      intro z y ro
      rw [oA_k (sh47 (w1 _)) (by omega) (by decide), oU_of, wI_s]
      by_cases hz : z = 0
      · rw [if_pos hz, if_pos hz]; rfl
      · rw [if_neg hz, if_neg hz]; rfl
    cases go with
    | false => rw [if_pos (by decide), fin]; rfl
    | true =>
      rw [if_neg (by decide)]
      rcases (by omega : s = 0 ∨ s = 1) with z | z
      · subst z; rw [if_pos (show nI 0 = 0 from rfl), fin]; rfl
      · subst z; rw [if_neg (show ¬ nI 1 = 0 by decide), fin]; rfl
  unfold fX9_attackIt
  rw [oK_of (sh45 h), rf45_3 h, oNn_of, oI_of, e31, oA_k (sh47 h) (by omega) (by decide), oI_of, clm (by omega), oR_of (sh45 h), e1, oB_of, oA_k (sh47 hm1) (by omega) (by decide), oU_of, er, oR_of (sh45 (w1 _)), m_menOf (w1 _) hs hk, oB_of, oR_of (sh45 (w1 _)), i1s hs, m_menOf (w1 _) (by omega) hk, oB_of]
  have r3 : ∀ l, l < 2 → mI (wI m1 47 (upd (mI m 47) (31 + s) (mI m 47 (31 + s) - v))) 47 (15 + 8 * l + k) = mI m 47 (15 + 8 * l + k) := by
    intro l hl
    show upd (mI m 47) (31 + s) _ _ = _
    rw [pk_un (by omega)]
  have r4 : mI (wI m1 47 (upd (mI m 47) (31 + s) (mI m 47 (31 + s) - v))) 47 (7 + k) = mI m 47 (7 + k) := by
    show upd (mI m 47) (31 + s) _ _ = _
    rw [pk_un (by omega)]
  rw [r3 s hs, r3 (1 - s) (by omega)]
  unfold bX9_attackIt_40 bX9_attackIt_58 bX9_attackIt_59
  by_cases z : mI m 47 (15 + 8 * (1 - s) + k) < mI m 47 (15 + 8 * s + k)
  · have ew : winsB (mI m 47) s k = true := decide_eq_true z
    rw [if_neg (Int32.not_le.mpr z), if_neg (by decide), oR_of (sh45 (w1 _)), m_canGoOn (w1 _) hs hk, oB_of, r4, i1s hs]
    by_cases z2 : (s = 0 ∧ mI m 47 (7 + k) < 3) ∨ (s = 1 ∧ -3 < mI m 47 (7 + k))
    · have eg : goesB (mI m 47) s k = true := by unfold goesB; rw [ew, decide_eq_true z2]; rfl
      rw [if_pos z2, if_neg (by decide), if_neg (by decide), ew, eg]
      exact tail (1 - s) true (by omega)
    · have eg : goesB (mI m 47) s k = false := by unfold goesB; rw [ew, decide_eq_false z2]; rfl
      rw [if_neg z2, if_pos rfl, if_neg (by decide), ew, eg]
      exact tail (1 - s) false (by omega)
  · have ew : winsB (mI m 47) s k = false := decide_eq_false z
    have eg : goesB (mI m 47) s k = false := by unfold goesB; rw [ew]; rfl
    rw [if_pos (Int32.not_lt.mp z), if_pos rfl, if_pos rfl, ew, eg]
    exact tail s false hs
set_option maxRecDepth 100000 in
theorem atG_FR {g row : Nat → Int32} (h : FR g row) (hs : s < 2) (hk : k < 8) {v : Int32} {w o : Bool} : FR (atG g s k v w o) (atR row s k v w o) := by
  have e1 : g (24 + s) = row (31 + s) := by rw [h.1 _ (by omega)]; congr 1; omega
  have e2 : ∀ l, l < 2 → g (8 + 8 * l + k) = row (15 + 8 * l + k) := fun l hl => by rw [h.1 _ (by omega)]; congr 1; omega
  have hl : (if w then 1 - s else s) < 2 := by split <;> omega
  unfold atG atR
  rw [e1, e2 _ hl, h.1 k (by omega)]
  have p1 := FR_upd (p := 24 + s) (x := row (31 + s) - v) h (by omega)
  rw [show 7 + (24 + s) = 31 + s by omega] at p1
  have p2 := FR_upd (p := 8 + 8 * (if w then 1 - s else s) + k) (x := row (15 + 8 * (if w then 1 - s else s) + k) - row (15 + 8 * (if w then 1 - s else s) + k) / 2) p1 (by omega)
  rw [show 7 + (8 + 8 * (if w then 1 - s else s) + k) = 15 + 8 * (if w then 1 - s else s) + k by omega] at p2
  exact FR_upd p2 (by omega)
set_option maxRecDepth 100000 in
theorem atR_Rrg {row : Nat → Int32} (h : Rrg row) (hs : s < 2) (hk : k < 8) {v : Int32} (hv : rg v 0 99) (hc : v ≤ row (31 + s)) : Rrg (atR row s k v (winsB row s k) (goesB row s k)) := by
  have hl : (if winsB row s k then 1 - s else s) < 2 := by split <;> omega
  have r1 := rr h (i := 31 + s) (by omega) (rl_sup s hs)
  have hc' := Int32.le_iff_toInt_le.mp hc
  unfold rg at hv
  unfold atR
  refine Rrg_up (Rrg_up (Rrg_up h (by unfold fP; omega) ?_) (by unfold fP; omega) ?_) (by unfold fP; omega) ?_
  · rw [rl_sup s hs]
    unfold rg
    rw [subI (by omega) (by omega)]
    omega
  · rw [rl_men _ hl k hk]
    obtain ⟨n, hn, en⟩ := rg_nI (M := 99) (x := row (15 + 8 * (if winsB row s k then 1 - s else s) + k)) (rr h (by omega) (rl_men _ hl k hk)) (by decide)
    rw [en, halfR n hn]
    exact nI_rg (M := 99) (by omega) (by decide)
  · rw [rl_line k hk]
    have r2 := rr h (i := 7 + k) (by omega) (rl_line k hk)
    cases hg : goesB row s k with
    | false =>
      unfold rg
      rw [if_neg (by decide), Int32.add_zero]
      exact r2
    | true =>
      unfold goesB at hg
      have hg2 := of_decide_eq_true (Bool.and_eq_true_iff.mp hg).2
      unfold rg
      rw [if_pos rfl]
      have k1 : (1 : Int32).toInt = 1 := by decide
      have k2 : (-1 : Int32).toInt = -1 := by decide
      have k3 : (3 : Int32).toInt = 3 := by decide
      have k4 : (-3 : Int32).toInt = -3 := by decide
      rcases hg2 with ⟨z, z2⟩ | ⟨z, z2⟩
      · have := Int32.lt_iff_toInt_lt.mp z2
        rw [if_pos z, addI2 (by omega) (by omega)]
        omega
      · have := Int32.lt_iff_toInt_lt.mp z2
        rw [if_neg (by omega), addI2 (by omega) (by omega)]
        omega
set_option maxRecDepth 100000 in
theorem atR_nf {row : Nat → Int32} (hs : s < 2) (hk : k < 8) {v : Int32} {w o : Bool} : ∀ i, ¬ fP i → atR row s k v w o i = row i := by
  have hl : (if w then 1 - s else s) < 2 := by split <;> omega
  unfold atR
  exact up_nf (by unfold fP; omega) (up_nf (by unfold fP; omega) (up_nf (by unfold fP; omega) (fun _ _ => rfl)))
end
