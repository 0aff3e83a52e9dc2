/-! ===== new places ===== -/
def fs_ {α : Type} (F : Nat → α) (j : Nat) (g : α) : Nat → α := fun i => if i = j then g else F i
def NM (u : Mm) (j : Nat) (Kd : Nat → Nat × Nat) (F : Nat → Nat → Int32) (Q : Nat → Nat → Option Nat) : Mm :=
  (u.1 + j, fun x => if u.1 ≤ x ∧ x < u.1 + j then Kd (x - u.1) else u.2.1 x, fun x => if u.1 ≤ x ∧ x < u.1 + j then F (x - u.1) else u.2.2.1 x, fun x => if u.1 ≤ x ∧ x < u.1 + j then (fun _ => 0) else u.2.2.2.1 x, fun x => if u.1 ≤ x ∧ x < u.1 + j then Q (x - u.1) else u.2.2.2.2 x)
section
variable {u : Mm} {j i : Nat} {Kd : Nat → Nat × Nat} {F : Nat → Nat → Int32} {Q : Nat → Nat → Option Nat}
set_option maxRecDepth 100000 in
theorem NM_n : mN (NM u j Kd F Q) = mN u + j := rfl
set_option maxRecDepth 100000 in
theorem NM_k (hi : i < j) : mK (NM u j Kd F Q) (mN u + i) = Kd i := by
  show (if u.1 + i < u.1 + j then (if u.1 ≤ u.1 + i ∧ u.1 + i < u.1 + j then Kd (u.1 + i - u.1) else u.2.1 (u.1 + i)) else (99, 0)) = _
  rw [if_pos (by omega), if_pos (by omega), show u.1 + i - u.1 = i by omega]
set_option maxRecDepth 100000 in
theorem NM_i (hi : i < j) : mI (NM u j Kd F Q) (mN u + i) = F i := by
  show (if u.1 ≤ u.1 + i ∧ u.1 + i < u.1 + j then F (u.1 + i - u.1) else mI u (u.1 + i)) = _
  rw [if_pos (by omega), show u.1 + i - u.1 = i by omega]
set_option maxRecDepth 100000 in
theorem NM_r (hi : i < j) : mR (NM u j Kd F Q) (mN u + i) = Q i := by
  show (if u.1 ≤ u.1 + i ∧ u.1 + i < u.1 + j then Q (u.1 + i - u.1) else mR u (u.1 + i)) = _
  rw [if_pos (by omega), show u.1 + i - u.1 = i by omega]
set_option maxRecDepth 100000 in
theorem NM_ko {x : Nat} (hx : x < mN u) : mK (NM u j Kd F Q) x = mK u x := by
  have hx' : x < u.1 := hx
  show (if x < u.1 + j then (if u.1 ≤ x ∧ x < u.1 + j then Kd (x - u.1) else u.2.1 x) else (99, 0)) = if x < u.1 then u.2.1 x else (99, 0)
  rw [if_pos (by omega), if_neg (by omega), if_pos hx']
set_option maxRecDepth 100000 in
theorem NM_io {x : Nat} (hx : x < mN u) : mI (NM u j Kd F Q) x = mI u x := by
  have hx' : x < u.1 := hx
  show (if u.1 ≤ x ∧ x < u.1 + j then F (x - u.1) else mI u x) = _
  rw [if_neg (by omega)]
set_option maxRecDepth 100000 in
theorem NM_lo {x : Nat} (hx : x < mN u) : mL (NM u j Kd F Q) x = mL u x := by
  show (if u.1 ≤ x ∧ x < u.1 + j then _ else mL u x) = _
  rw [if_neg (fun q => absurd hx (Nat.not_lt.mpr q.1))]
set_option maxRecDepth 100000 in
theorem NM_ro {x : Nat} (hx : x < mN u) : mR (NM u j Kd F Q) x = mR u x := by
  have hx' : x < u.1 := hx
  show (if u.1 ≤ x ∧ x < u.1 + j then Q (x - u.1) else mR u x) = _
  rw [if_neg (by omega)]
set_option maxRecDepth 100000 in
theorem NM_wN {k n : Nat} : wN (NM u j Kd F Q) k n = NM u (j + 1) (fs_ Kd j (k, n)) (fs_ F j (fun _ => 0)) (fs_ Q j (fun _ => none)) := by
  unfold wN NM fs_
  refine Prod.ext rfl (Prod.ext ?_ (Prod.ext ?_ (Prod.ext ?_ ?_)))
  · funext x
    show (if x = u.1 + j then (k, n) else if u.1 ≤ x ∧ x < u.1 + j then Kd (x - u.1) else u.2.1 x) = if u.1 ≤ x ∧ x < u.1 + (j + 1) then (if x - u.1 = j then (k, n) else Kd (x - u.1)) else u.2.1 x
    by_cases c : x = u.1 + j
    · rw [if_pos c, if_pos (by omega), if_pos (by omega)]
    · rw [if_neg c]
      by_cases d : u.1 ≤ x ∧ x < u.1 + j
      · rw [if_pos d, if_pos (by omega), if_neg (by omega)]
      · rw [if_neg d, if_neg (by omega)]
  · funext x
    show (if x = u.1 + j then (fun _ => (0 : Int32)) else if u.1 ≤ x ∧ x < u.1 + j then F (x - u.1) else u.2.2.1 x) = if u.1 ≤ x ∧ x < u.1 + (j + 1) then (if x - u.1 = j then (fun _ => 0) else F (x - u.1)) else u.2.2.1 x
    by_cases c : x = u.1 + j
    · rw [if_pos c, if_pos (by omega), if_pos (by omega)]
    · rw [if_neg c]
      by_cases d : u.1 ≤ x ∧ x < u.1 + j
      · rw [if_pos d, if_pos (by omega), if_neg (by omega)]
      · rw [if_neg d, if_neg (by omega)]
  · funext x
    show (if x = u.1 + j then (fun _ => (0 : Int64)) else if u.1 ≤ x ∧ x < u.1 + j then (fun _ => 0) else u.2.2.2.1 x) = if u.1 ≤ x ∧ x < u.1 + (j + 1) then (fun _ => 0) else u.2.2.2.1 x
    by_cases c : x = u.1 + j
    · rw [if_pos c, if_pos (by omega)]
    · rw [if_neg c]
      by_cases d : u.1 ≤ x ∧ x < u.1 + j
      · rw [if_pos d, if_pos (by omega)]
      · rw [if_neg d, if_neg (by omega)]
  · funext x
    show (if x = u.1 + j then (fun _ => (none : Option Nat)) else if u.1 ≤ x ∧ x < u.1 + j then Q (x - u.1) else u.2.2.2.2 x) = if u.1 ≤ x ∧ x < u.1 + (j + 1) then (if x - u.1 = j then (fun _ => none) else Q (x - u.1)) else u.2.2.2.2 x
    by_cases c : x = u.1 + j
    · rw [if_pos c, if_pos (by omega), if_pos (by omega)]
    · rw [if_neg c]
      by_cases d : u.1 ≤ x ∧ x < u.1 + j
      · rw [if_pos d, if_pos (by omega), if_neg (by omega)]
      · rw [if_neg d, if_neg (by omega)]
set_option maxRecDepth 100000 in
theorem NM_wR {g : Nat → Option Nat} (hi : i < j) : wR (NM u j Kd F Q) (mN u + i) g = NM u j Kd F (fs_ Q i g) := by
  unfold wR NM fs_ mN
  refine Prod.ext rfl (Prod.ext rfl (Prod.ext rfl (Prod.ext rfl ?_)))
  funext x
  show (if x = u.1 + i then g else if u.1 ≤ x ∧ x < u.1 + j then Q (x - u.1) else u.2.2.2.2 x) = if u.1 ≤ x ∧ x < u.1 + j then (if x - u.1 = i then g else Q (x - u.1)) else u.2.2.2.2 x
  by_cases c : x = u.1 + i
  · rw [if_pos c, if_pos (by omega), if_pos (by omega)]
  · rw [if_neg c]
    by_cases d : u.1 ≤ x ∧ x < u.1 + j
    · rw [if_pos d, if_pos d, if_neg (by omega)]
    · rw [if_neg d, if_neg d]
set_option maxRecDepth 100000 in
theorem NM_wI {g : Nat → Int32} (hi : i < j) : wI (NM u j Kd F Q) (mN u + i) g = NM u j Kd (fs_ F i g) Q := by
  unfold wI NM fs_ mN
  refine Prod.ext rfl (Prod.ext rfl (Prod.ext ?_ (Prod.ext rfl rfl)))
  funext x
  show (if x = u.1 + i then g else if u.1 ≤ x ∧ x < u.1 + j then F (x - u.1) else u.2.2.1 x) = if u.1 ≤ x ∧ x < u.1 + j then (if x - u.1 = i then g else F (x - u.1)) else u.2.2.1 x
  by_cases c : x = u.1 + i
  · rw [if_pos c, if_pos (by omega), if_pos (by omega)]
  · rw [if_neg c]
    by_cases d : u.1 ≤ x ∧ x < u.1 + j
    · rw [if_pos d, if_pos d, if_neg (by omega)]
    · rw [if_neg d, if_neg d]
set_option maxRecDepth 100000 in
theorem NM_0 : NM u 0 Kd F Q = u := by
  unfold NM
  refine Prod.ext rfl (Prod.ext ?_ (Prod.ext ?_ (Prod.ext ?_ ?_)))
  all_goals
    funext x
    exact if_neg (by omega)
set_option maxRecDepth 100000 in
/-- an array made, and referred to from the object's field -/
theorem alA {ρ : Type} {K : Mm → Option ρ} {cap k ck cn f : Nat} {n : Int32} {N : Nat} (hn : 0 ≤ n) (hN : n.toNatClampNeg = N) (hc : N ≤ cap) (h0 : 0 < j) (hk : Kd 0 = (ck, cn)) : oN cap n (oP (mN (NM u j Kd F Q)) (fun e => oU (wN (NM u j Kd F Q) k (Int32.toNatClampNeg n)) (fun v => oK v (mN u) ck cn (oU (wR v (mN u) (va_up (mR v (mN u)) f (some e))) K)))) = K (NM u (j + 1) (fs_ Kd j (k, N)) (fs_ F j (fun _ => 0)) (fs_ (fs_ Q j (fun _ => none)) 0 (va_up (Q 0) f (some (mN u + j))))) := by
  have e0 : mK (NM u (j + 1) (fs_ Kd j (k, N)) (fs_ F j (fun _ => 0)) (fs_ Q j (fun _ => none))) (mN u) = (ck, cn) := by
    have := NM_k (u := u) (j := j + 1) (i := 0) (Kd := fs_ Kd j (k, N)) (F := fs_ F j (fun _ => 0)) (Q := fs_ Q j (fun _ => none)) (by omega)
    refine Eq.trans this ?_
    unfold fs_
    rw [if_neg (by omega), hk]
  have e1 : mR (NM u (j + 1) (fs_ Kd j (k, N)) (fs_ F j (fun _ => 0)) (fs_ Q j (fun _ => none))) (mN u) = Q 0 := by
    have := NM_r (u := u) (j := j + 1) (i := 0) (Kd := fs_ Kd j (k, N)) (F := fs_ F j (fun _ => 0)) (Q := fs_ Q j (fun _ => none)) (by omega)
    refine Eq.trans this ?_
    unfold fs_
    rw [if_neg (by omega)]
  have e2 := fun g => NM_wR (u := u) (j := j + 1) (i := 0) (Kd := fs_ Kd j (k, N)) (F := fs_ F j (fun _ => 0)) (Q := fs_ Q j (fun _ => none)) (g := g) (by omega)
  unfold oN
  rw [if_pos ⟨hn, by rw [hN]; exact hc⟩, oP_of, oU_of, NM_wN, hN, oK_of e0, oU_of, e1, NM_n]
  exact congrArg K (e2 _)
end
set_option maxRecDepth 100000 in
theorem nb_fr : ∀ (v : Mm) (f : Nat), Fr v f → ∃ g, rX1_init_14 hwF v f 0 = some ((), wI v (f + 1) g) := by
  intro v f hF
  refine ⟨upd (upd (upd (upd (mI v (f + 1)) 24 50) 26 20) 25 50) 27 20, ?_⟩
  have w1 : ∀ g, Fr (wI v (f + 1) g) f := fun _ => hF
  have e2 : ∀ g, mI (wI v (f + 1) g) (f + 1) = g := fun g => by rw [mI_wI, if_pos rfl]
  show bX1_init_14 (rX1_init_14 999999) v f (nI 0) = _
  unfold bX1_init_14
  rw [if_neg (by decide), oK_of hF.1, hF.2.1, oNn_of, show (24 : Int32) + nI 0 = nI 24 from rfl, oA_k hF.2.2 (by decide) (by decide), oU_of, oK_of (w1 _).1, (w1 _).2.1, oNn_of, show (26 : Int32) + nI 0 = nI 26 from rfl, oA_k (w1 _).2.2 (by decide) (by decide), oU_of, wI_s, e2]
  show bX1_init_14 (rX1_init_14 999998) _ f (nI 1) = _
  unfold bX1_init_14
  rw [if_neg (by decide), oK_of (w1 _).1, (w1 _).2.1, oNn_of, show (24 : Int32) + nI 1 = nI 25 from rfl, oA_k (w1 _).2.2 (by decide) (by decide), oU_of, wI_s, e2, oK_of (w1 _).1, (w1 _).2.1, oNn_of, show (26 : Int32) + nI 1 = nI 27 from rfl, oA_k (w1 _).2.2 (by decide) (by decide), oU_of, wI_s, e2]
  show bX1_init_14 (rX1_init_14 999997) _ f (nI 2) = _
  unfold bX1_init_14
  rw [if_pos (by decide)]
  rfl
set_option maxRecDepth 100000 in
theorem nb_lp2 : ∀ (v : Mm) (b p : Nat), mK v b = (0, 16) → mR v b 4 = some p → mK v p = (10, 16) → ∀ (N r k : Nat) (g : Nat → Int32), k + r = 16 → ∃ g', rX0_init_121 (N + r + 1) (wI v p g) b (nI k) = some ((), wI v p g') := by
  intro v b p h1 h2 h3 N r
  induction r with
  | zero =>
    intro k g hk
    have e : k = 16 := by omega
    subst e
    refine ⟨g, ?_⟩
    show bX0_init_121 _ _ b (nI 16) = _
    unfold bX0_init_121
    rw [if_pos (by decide)]
  | succ r ih =>
    intro k g hk
    have q1 : mK (wI v p g) b = (0, 16) := h1
    have q2 : mR (wI v p g) b 4 = some p := h2
    have q3 : mK (wI v p g) p = (10, 16) := h3
    obtain ⟨g', e⟩ := ih (k + 1) (upd (mI (wI v p g) p) k 5) (by omega)
    refine ⟨g', ?_⟩
    show bX0_init_121 (rX0_init_121 (N + r + 1)) _ b (nI k) = _
    unfold bX0_init_121
    rw [if_neg (show ¬ (16 : Int32) ≤ nI k from nI_ge (b := 16) (by omega) (by decide)), oK_of q1, q2, oNn_of, oA_k q3 (by omega) (by decide), oU_of, clm (by omega), wI_s, nI_1]
    exact e
set_option maxRecDepth 100000 in
theorem nb_lp1 : ∀ (v : Mm) (b p a : Nat), mK v b = (0, 16) → mR v b 4 = some p → mK v p = (10, 16) → mR v b 2 = some a → mK v a = (10, 16) → ∀ (N r k : Nat) (g : Nat → Int32), k + r = 16 → ∃ g' g'', rX0_init_100 (N + r + 1) (wI v a g) b (nI k) = some ((), wI (wI v a g'') p g') := by
  intro v b p a h1 h2 h3 h4 h5 N r
  induction r with
  | zero =>
    intro k g hk
    have e : k = 16 := by omega
    subst e
    obtain ⟨g', e⟩ := nb_lp2 (wI v a g) b p h1 h2 h3 999983 16 0 (mI (wI v a g) p) (by decide)
    refine ⟨g', g, ?_⟩
    show bX0_init_100 _ _ b (nI 16) = _
    unfold bX0_init_100
    rw [if_pos (by decide)]
    rw [wI_id] at e
    exact e
  | succ r ih =>
    intro k g hk
    have q1 : mK (wI v a g) b = (0, 16) := h1
    have q2 : mR (wI v a g) b 2 = some a := h4
    have q3 : mK (wI v a g) a = (10, 16) := h5
    obtain ⟨g', g'', e⟩ := ih (k + 1) (upd (mI (wI v a g) a) k (-1)) (by omega)
    refine ⟨g', g'', ?_⟩
    show bX0_init_100 (rX0_init_100 (N + r + 1)) _ b (nI k) = _
    unfold bX0_init_100
    rw [if_neg (show ¬ (16 : Int32) ≤ nI k from nI_ge (b := 16) (by omega) (by decide)), oK_of q1, q2, oNn_of, oA_k q3 (by omega) (by decide), oU_of, clm (by omega), wI_s, nI_1]
    exact e
section
variable {u : Mm} {j : Nat} {Kd : Nat → Nat × Nat} {F : Nat → Nat → Int32} {Q : Nat → Nat → Option Nat}
set_option maxRecDepth 100000 in
theorem NM_k0 (hj : 0 < j) : mK (NM u j Kd F Q) (mN u) = Kd 0 := NM_k (i := 0) hj
set_option maxRecDepth 100000 in
theorem NM_r0 (hj : 0 < j) : mR (NM u j Kd F Q) (mN u) = Q 0 := NM_r (i := 0) hj
set_option maxRecDepth 100000 in
theorem NM_i0 (hj : 0 < j) : mI (NM u j Kd F Q) (mN u) = F 0 := NM_i (i := 0) hj
set_option maxRecDepth 100000 in
theorem NM_wR0 {g : Nat → Option Nat} (hj : 0 < j) : wR (NM u j Kd F Q) (mN u) g = NM u j Kd F (fs_ Q 0 g) := NM_wR (i := 0) hj
set_option maxRecDepth 100000 in
theorem NM_wI0 {g : Nat → Int32} (hj : 0 < j) : wI (NM u j Kd F Q) (mN u) g = NM u j Kd (fs_ F 0 g) Q := NM_wI (i := 0) hj
end
set_option maxRecDepth 100000 in
theorem oK_NM0 {ρ : Type} {X : Option ρ} {u : Mm} {j ck cn : Nat} {Kd : Nat → Nat × Nat} {F : Nat → Nat → Int32} {Q : Nat → Nat → Option Nat} (hj : 0 < j) (h : Kd 0 = (ck, cn)) : oK (NM u j Kd F Q) (mN u) ck cn X = X := oK_of ((NM_k0 hj).trans h)
set_option maxRecDepth 100000 in
/-- a new front -/
theorem c_newfront {u : Mm} {Kd : Nat → Nat × Nat} {F : Nat → Nat → Int32} {Q : Nat → Nat → Option Nat} : ∃ F', fX1_init (NM u 2 (fs_ Kd 1 (1, 1)) F Q) (mN u + 1) = some ((), NM u 3 (fs_ (fs_ Kd 1 (1, 1)) 2 (10, 29)) F' (fs_ (fs_ Q 2 (fun _ => none)) 1 (va_up (Q 1) 0 (some (mN u + 2))))) := by
  have k1 : mK (NM u 3 (fs_ (fs_ Kd 1 (1, 1)) 2 (10, 29)) (fs_ F 2 (fun _ => 0)) (fs_ Q 2 (fun _ => none))) (mN u + 1) = (1, 1) := NM_k (i := 1) (by decide)
  have r1 : mR (NM u 3 (fs_ (fs_ Kd 1 (1, 1)) 2 (10, 29)) (fs_ F 2 (fun _ => 0)) (fs_ Q 2 (fun _ => none))) (mN u + 1) = Q 1 := NM_r (i := 1) (by decide)
  have hF : Fr (NM u 3 (fs_ (fs_ Kd 1 (1, 1)) 2 (10, 29)) (fs_ F 2 (fun _ => 0)) (fs_ (fs_ Q 2 (fun _ => none)) 1 (va_up (Q 1) 0 (some (mN u + 2))))) (mN u + 1) := ⟨NM_k (i := 1) (by decide), by rw [NM_r (i := 1) (by decide)]; rfl, NM_k (i := 2) (by decide)⟩
  obtain ⟨g, e⟩ := nb_fr _ _ hF
  refine ⟨fs_ (fs_ F 2 (fun _ => 0)) 2 g, ?_⟩
  unfold fX1_init oN
  rw [if_pos (by decide), oP_of, oU_of, show Int32.toNatClampNeg 29 = 29 from rfl, NM_wN, NM_n, oK_of k1, oU_of, r1, NM_wR (i := 1) (by decide)]
  refine e.trans ?_
  rw [show mN u + 1 + 1 = mN u + 2 from rfl, NM_wI (i := 2) (by decide)]
set_option maxRecDepth 100000 in
theorem nb_fin {u : Mm} {Kd : Nat → Nat × Nat} {F : Nat → Nat → Int32} {Q : Nat → Nat → Option Nat} (h0 : Kd 0 = (0, 16)) (h4 : Kd 4 = (10, 16)) (h6 : Kd 6 = (10, 16)) (q4 : Q 0 4 = some (mN u + 6)) (q2 : Q 0 2 = some (mN u + 4)) : ∃ F', rX0_init_100 hwF (NM u 12 Kd F Q) (mN u) 0 = some ((), NM u 12 Kd F' Q) := by
  obtain ⟨g', g'', e2⟩ := nb_lp1 (NM u 12 Kd F Q) (mN u) (mN u + 6) (mN u + 4) ((NM_k0 (by decide)).trans h0) (by rw [NM_r0 (by decide)]; exact q4) ((NM_k (i := 6) (by decide)).trans h6) (by rw [NM_r0 (by decide)]; exact q2) ((NM_k (i := 4) (by decide)).trans h4) 999983 16 0 (mI (NM u 12 Kd F Q) (mN u + 4)) (by decide)
  rw [wI_id, NM_wI (i := 4) (by decide), NM_wI (i := 6) (by decide)] at e2
  exact ⟨_, e2⟩
set_option maxRecDepth 100000 in
theorem c_newbook {u : Mm} : ∃ Kd F Q, fX0_init (wN u 0 16) (mN u) = some ((), NM u 12 Kd F Q) ∧ (Kd 0 = (0, 16) ∧ Kd 1 = (1, 1) ∧ Kd 2 = (10, 29) ∧ Kd 3 = (10, 16) ∧ Kd 4 = (10, 16) ∧ Kd 5 = (10, 16) ∧ Kd 6 = (10, 16) ∧ Kd 7 = (10, 8) ∧ Kd 8 = (10, 8) ∧ Kd 9 = (10, 6) ∧ Kd 10 = (10, 6) ∧ Kd 11 = (14, 6)) ∧ Q 0 0 = some (mN u + 1) ∧ Q 1 0 = some (mN u + 2) ∧ Q 0 1 = some (mN u + 3) ∧ Q 0 2 = some (mN u + 4) ∧ Q 0 3 = some (mN u + 5) ∧ Q 0 4 = some (mN u + 6) ∧ Q 0 5 = some (mN u + 7) ∧ Q 0 6 = some (mN u + 8) ∧ Q 0 8 = some (mN u + 9) ∧ Q 0 9 = some (mN u + 10) ∧ Q 0 13 = some (mN u + 11) := by
  have s0 : wN u 0 16 = NM u 1 (fs_ (fun _ => (0, 0)) 0 (0, 16)) (fs_ (fun _ _ => 0) 0 (fun _ => 0)) (fs_ (fun _ _ => none) 0 (fun _ => none)) := by
    have := NM_wN (u := u) (j := 0) (Kd := fun _ => (0, 0)) (F := fun _ _ => 0) (Q := fun _ _ => none) (k := 0) (n := 16)
    rw [NM_0] at this
    exact this
  obtain ⟨F1, e1⟩ := c_newfront (u := u) (Kd := fs_ (fun _ => (0, 0)) 0 (0, 16)) (F := fs_ (fs_ (fun _ _ => 0) 0 (fun _ => 0)) 1 (fun _ => 0)) (Q := fs_ (fs_ (fun _ _ => none) 0 (fun _ => none)) 1 (fun _ => none))
  apply Exists.intro
  apply Exists.intro
  apply Exists.intro
  constructor
  unfold fX0_init
  rw [s0, oP_of, oU_of, NM_wN, NM_n, e1, oB_of]
  refine (oK_NM0 (by decide) (by rfl)).trans ?_
  rw [oU_of, NM_r0 (by decide), NM_wR0 (by decide)]
  refine (alA (k := 10) (f := 1) (n := 16) (N := 16) (by decide) (by rfl) (by decide) (by decide) (by rfl)).trans ?_
  refine (alA (k := 10) (f := 2) (n := 16) (N := 16) (by decide) (by rfl) (by decide) (by decide) (by rfl)).trans ?_
  refine (alA (k := 10) (f := 3) (n := 16) (N := 16) (by decide) (by rfl) (by decide) (by decide) (by rfl)).trans ?_
  refine (alA (k := 10) (f := 4) (n := 16) (N := 16) (by decide) (by rfl) (by decide) (by decide) (by rfl)).trans ?_
  refine (alA (k := 10) (f := 5) (n := 8) (N := 8) (by decide) (by rfl) (by decide) (by decide) (by rfl)).trans ?_
  refine (alA (k := 10) (f := 6) (n := 8) (N := 8) (by decide) (by rfl) (by decide) (by decide) (by rfl)).trans ?_
  refine (alA (k := 10) (f := 8) (n := 6) (N := 6) (by decide) (by rfl) (by decide) (by decide) (by rfl)).trans ?_
  refine (alA (k := 10) (f := 9) (n := 6) (N := 6) (by decide) (by rfl) (by decide) (by decide) (by rfl)).trans ?_
  refine (oK_NM0 (by decide) (by rfl)).trans ?_
  rw [oU_of, NM_wI0 (by decide)]
  refine (alA (k := 14) (f := 13) (n := 6) (N := 6) (by decide) (by rfl) (by decide) (by decide) (by rfl)).trans ?_
  refine (oK_NM0 (by decide) (by rfl)).trans ?_
  rw [oU_of, NM_wI0 (by decide)]
  exact (nb_fin rfl rfl rfl rfl rfl).choose_spec
  exact ⟨⟨rfl, rfl, rfl, rfl, rfl, rfl, rfl, rfl, rfl, rfl, rfl, rfl⟩, rfl, rfl, rfl, rfl, rfl, rfl, rfl, rfl, rfl, rfl, rfl⟩
