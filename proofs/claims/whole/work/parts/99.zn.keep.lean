/-! ===== what is kept ahead of orders, and given back ===== -/
def cpF (f g : Nat → Int32) (k : Nat) : Nat → Int32 := fun i => if i < k then f i else g i
set_option maxRecDepth 100000 in
theorem cpF_u {f g : Nat → Int32} {k : Nat} : upd (cpF f g k) k (f k) = cpF f g (k + 1) := by
  funext i
  unfold cpF
  by_cases z : i = k
  · subst z; rw [pk_us, if_pos (by omega)]
  · rw [pk_un z]
    by_cases y : i < k
    · rw [if_pos y, if_pos (by omega)]
    · rw [if_neg y, if_neg (by omega)]
set_option maxRecDepth 100000 in
theorem cpF_0 {f g : Nat → Int32} : cpF f g 0 = g := by funext i; unfold cpF; rw [if_neg (by omega)]
set_option maxRecDepth 100000 in
theorem cpF_lt {f g : Nat → Int32} {k i : Nat} (h : i < k) : cpF f g k i = f i := by unfold cpF; rw [if_pos h]
set_option maxRecDepth 100000 in
theorem cpF_ge {f g : Nat → Int32} {k i : Nat} (h : k ≤ i) : cpF f g k i = g i := by unfold cpF; rw [if_neg (by omega)]
/-- the state the run begins with -/
def kO (u : Mm) : Mm := wI (wI (wI u 52 (cpF (mI u 50) (mI u 52) 496)) 53 (cpF (mI u 51) (mI u 53) 16)) 45 (upd (upd (mI u 45) 47 0) 48 (-1))
set_option maxRecDepth 100000 in
theorem r_104 {u : Mm} (hS : hSh u) {x1 : Int32} {g : Nat → Int32} {N : Nat} : ∀ d k, k + d = 16 → rX9_orders_104 (N + d + 1) (wI u 53 (cpF (mI u 51) g k)) 45 x1 (nI k) = rX9_orders_140 hwF (wI (wI u 53 (cpF (mI u 51) g 16)) 45 (upd (upd (mI u 45) 47 0) 48 (-1))) 45 x1 0 := by
  have h1 : ∀ g, hSh (wI u 53 g) := fun _ => hS
  have h2 : ∀ g g', hSh (wI (wI u 53 g) 45 g') := fun _ _ => hS
  have e1 : ∀ g k, mI (wI u 53 g) 51 k = mI u 51 k := fun _ _ => rfl
  have e2 : ∀ g, mI (wI u 53 g) 53 = g := fun _ => rfl
  intro d
  induction d with
  | zero =>
    intro k hk
    have e : k = 16 := by omega
    subst e
    show bX9_orders_104 _ _ 45 x1 (nI 16) = _
    unfold bX9_orders_104
    rw [if_pos (by decide), oK_of (sh45 (h1 _)), oU_of, oK_of (sh45 (h2 _ _)), oU_of, wI_s]
    rfl
  | succ d ih =>
    intro k hk
    show bX9_orders_104 (rX9_orders_104 (N + d + 1)) _ 45 x1 (nI k) = _
    unfold bX9_orders_104
    rw [if_neg (show ¬ (16 : Int32) ≤ nI k from nI_ge (b := 16) (by omega) (by decide)), oK_of (sh45 (h1 _)), rf45_10 (h1 _), oNn_of, oK_of (sh45 (h1 _)), rf45_7 (h1 _), oNn_of, oA_k (sh51 (h1 _)) (by omega) (by decide), oI_of, clm (by omega), oA_k (sh53 (h1 _)) (by omega) (by decide), oU_of, e1, e2, wI_s, cpF_u, nI_1]
    exact ih (k + 1) (by omega)
set_option maxRecDepth 100000 in
theorem r_77 {u : Mm} (hS : hSh u) {x1 : Int32} {g : Nat → Int32} {N : Nat} : ∀ d k, k + d = 496 → rX9_orders_77 (N + d + 1) (wI u 52 (cpF (mI u 50) g k)) 45 x1 (nI k) = rX9_orders_104 hwF (wI u 52 (cpF (mI u 50) g 496)) 45 x1 0 := by
  have h1 : ∀ g, hSh (wI u 52 g) := fun _ => hS
  have e1 : ∀ g k, mI (wI u 52 g) 50 k = mI u 50 k := fun _ _ => rfl
  have e2 : ∀ g, mI (wI u 52 g) 52 = g := fun _ => rfl
  intro d
  induction d with
  | zero =>
    intro k hk
    have e : k = 496 := by omega
    subst e
    show bX9_orders_77 _ _ 45 x1 (nI 496) = _
    unfold bX9_orders_77
    rw [if_pos (by decide)]
  | succ d ih =>
    intro k hk
    show bX9_orders_77 (rX9_orders_77 (N + d + 1)) _ 45 x1 (nI k) = _
    unfold bX9_orders_77
    rw [if_neg (show ¬ (496 : Int32) ≤ nI k from nI_ge (b := 496) (by omega) (by decide)), oK_of (sh45 (h1 _)), rf45_9 (h1 _), oNn_of, oK_of (sh45 (h1 _)), rf45_6 (h1 _), oNn_of, oA_k (sh50 (h1 _)) (by omega) (by decide), oI_of, clm (by omega), oA_k (sh52 (h1 _)) (by omega) (by decide), oU_of, e1, e2, wI_s, cpF_u, nI_1]
    exact ih (k + 1) (by omega)
set_option maxRecDepth 100000 in
theorem r_keep {u : Mm} (hS : hSh u) {x1 : Int32} : rX9_orders_77 hwF u 45 x1 0 = rX9_orders_140 hwF (kO u) 45 x1 0 := by
  have l := r_77 hS (x1 := x1) (g := mI u 52) (N := 999503) 496 0 (by decide)
  rw [cpF_0, wI_id] at l
  have h1 : hSh (wI u 52 (cpF (mI u 50) (mI u 52) 496)) := hS
  have l2 := r_104 h1 (x1 := x1) (g := mI u 53) (N := 999983) 16 0 (by decide)
  rw [cpF_0, show wI (wI u 52 (cpF (mI u 50) (mI u 52) 496)) 53 (mI u 53) = wI u 52 (cpF (mI u 50) (mI u 52) 496) from wI_id (u := wI u 52 (cpF (mI u 50) (mI u 52) 496)) (a := 53)] at l2
  exact l.trans l2
/-- given back -/
def gO (u : Mm) (x1 : Int32) : Mm := wI (wI (wI u 50 (cpF (mI u 52) (mI u 50) 496)) 51 (cpF (mI u 53) (mI u 51) 16)) 45 (upd (mI u 45) 8 x1)
set_option maxRecDepth 100000 in
theorem r_gb35 {u : Mm} (hS : hSh u) {x1 : Int32} {g : Nat → Int32} {N : Nat} : ∀ d k, k + d = 16 → rX9_giveBack_35 (N + d + 1) (wI u 51 (cpF (mI u 53) g k)) 45 x1 (nI k) = some ((), wI (wI u 51 (cpF (mI u 53) g 16)) 45 (upd (mI u 45) 8 x1)) := by
  have h1 : ∀ g, hSh (wI u 51 g) := fun _ => hS
  have e1 : ∀ g k, mI (wI u 51 g) 53 k = mI u 53 k := fun _ _ => rfl
  have e2 : ∀ g, mI (wI u 51 g) 51 = g := fun _ => rfl
  intro d
  induction d with
  | zero =>
    intro k hk
    have e : k = 16 := by omega
    subst e
    show bX9_giveBack_35 _ _ 45 x1 (nI 16) = _
    unfold bX9_giveBack_35
    rw [if_pos (by decide), oK_of (sh45 (h1 _)), oU_of]
    rfl
  | succ d ih =>
    intro k hk
    show bX9_giveBack_35 (rX9_giveBack_35 (N + d + 1)) _ 45 x1 (nI k) = _
    unfold bX9_giveBack_35
    rw [if_neg (show ¬ (16 : Int32) ≤ nI k from nI_ge (b := 16) (by omega) (by decide)), oK_of (sh45 (h1 _)), rf45_7 (h1 _), oNn_of, oK_of (sh45 (h1 _)), rf45_10 (h1 _), oNn_of, oA_k (sh53 (h1 _)) (by omega) (by decide), oI_of, clm (by omega), oA_k (sh51 (h1 _)) (by omega) (by decide), oU_of, e1, e2, wI_s, cpF_u, nI_1]
    exact ih (k + 1) (by omega)
set_option maxRecDepth 100000 in
theorem r_gb8 {u : Mm} (hS : hSh u) {x1 : Int32} {g : Nat → Int32} {N : Nat} : ∀ d k, k + d = 496 → rX9_giveBack_8 (N + d + 1) (wI u 50 (cpF (mI u 52) g k)) 45 x1 (nI k) = rX9_giveBack_35 hwF (wI u 50 (cpF (mI u 52) g 496)) 45 x1 0 := by
  have h1 : ∀ g, hSh (wI u 50 g) := fun _ => hS
  have e1 : ∀ g k, mI (wI u 50 g) 52 k = mI u 52 k := fun _ _ => rfl
  have e2 : ∀ g, mI (wI u 50 g) 50 = g := fun _ => rfl
  intro d
  induction d with
  | zero =>
    intro k hk
    have e : k = 496 := by omega
    subst e
    show bX9_giveBack_8 _ _ 45 x1 (nI 496) = _
    unfold bX9_giveBack_8
    rw [if_pos (by decide)]
  | succ d ih =>
    intro k hk
    show bX9_giveBack_8 (rX9_giveBack_8 (N + d + 1)) _ 45 x1 (nI k) = _
    unfold bX9_giveBack_8
    rw [if_neg (show ¬ (496 : Int32) ≤ nI k from nI_ge (b := 496) (by omega) (by decide)), oK_of (sh45 (h1 _)), rf45_6 (h1 _), oNn_of, oK_of (sh45 (h1 _)), rf45_9 (h1 _), oNn_of, oA_k (sh52 (h1 _)) (by omega) (by decide), oI_of, clm (by omega), oA_k (sh50 (h1 _)) (by omega) (by decide), oU_of, e1, e2, wI_s, cpF_u, nI_1]
    exact ih (k + 1) (by omega)
/-- the row is put back too -/
def pO (u : Mm) : Mm := wI u 47 (pF (mI u 47) (fun i => mI u 50 (31 * 17 + i)) 31)
set_option maxRecDepth 100000 in
theorem r_giveBack {u : Mm} (hS : hSh u) {x1 : Int32} : fX9_giveBack u 45 x1 = some ((), gO (pO u) x1) := by
  have hp : hSh (pO u) := hS
  have l := r_gb8 hp (x1 := x1) (g := mI (pO u) 50) (N := 999503) 496 0 (by decide)
  rw [cpF_0, wI_id] at l
  have h1 : hSh (wI (pO u) 50 (cpF (mI (pO u) 52) (mI (pO u) 50) 496)) := hS
  have l2 := r_gb35 h1 (x1 := x1) (g := mI (pO u) 51) (N := 999983) 16 0 (by decide)
  rw [cpF_0, show wI (wI (pO u) 50 (cpF (mI (pO u) 52) (mI (pO u) 50) 496)) 51 (mI (pO u) 51) = wI (pO u) 50 (cpF (mI (pO u) 52) (mI (pO u) 50) 496) from wI_id (u := wI (pO u) 50 (cpF (mI (pO u) 52) (mI (pO u) 50) 496)) (a := 51)] at l2
  unfold fX9_giveBack
  rw [oR_of (sh45 hS), show (17 : Int32) = nI 17 from rfl, m_putBack hS (by decide), oB_of]
  exact l.trans l2
/-- the class's past, copied -/
def pC (u : Mm) (a b : Nat) : Mm := wI (wI (wI (wI u (a + 1) (va_cpy (mI u (b + 1)) (mI u (a + 1)) 0 0 464)) (a + 2) (va_cpy (mI u (b + 2)) (mI u (a + 2)) 0 0 16)) a (upd (mI u a) 2 (mI u b 2))) a (upd (upd (mI u a) 2 (mI u b 2)) 3 (mI u b 3))
set_option maxRecDepth 100000 in
theorem c_pcopy {u : Mm} (hS : hSh u) {a b : Nat} (h : a = 33 ∧ b = 30 ∨ a = 30 ∧ b = 33) : fX3_copyFrom u a b = some ((), pC u a b) := by
  have h1 : ∀ x g, hSh (wI u x g) := fun _ _ => hS
  have h2 : ∀ x g x' g', hSh (wI (wI u x g) x' g') := fun _ _ _ _ => hS
  have h3 : ∀ x g x' g' x'' g'', hSh (wI (wI (wI u x g) x' g') x'' g'') := fun _ _ _ _ _ _ => hS
  have z0 : (0 : Int32) = nI 0 := rfl
  have z16 : (16 : Int32) = nI 16 := rfl
  rcases h with ⟨rfl, rfl⟩ | ⟨rfl, rfl⟩
  · have k34 : Int32.ofNat (mK u 34).2 = nI 464 := by rw [sh34 hS]; rfl
    unfold fX3_copyFrom
    rw [oK_of (sh30 hS), rf30_0 hS, oNn_of, oK_of (sh33 hS), rf33_0 hS, oNn_of, oK_of (sh33 hS), oNn_of, oL_of (sh34 hS), k34, z0, z16, oC_of (sh31 hS) (sh34 hS) (by decide) (by decide) (by decide) (by decide), oU_of, oK_of (sh30 (h1 _ _)), rf30_1 (h1 _ _), oNn_of, oK_of (sh33 (h1 _ _)), rf33_1 (h1 _ _), oNn_of, oC_of (sh32 (h1 _ _)) (sh35 (h1 _ _)) (by decide) (by decide) (by decide) (by decide), oU_of, oK_of (sh30 (h2 _ _ _ _)), oI_of, oK_of (sh33 (h2 _ _ _ _)), oU_of, oK_of (sh30 (h3 _ _ _ _ _ _)), oI_of, oK_of (sh33 (h3 _ _ _ _ _ _)), oU_of]
    rfl
  · have k31 : Int32.ofNat (mK u 31).2 = nI 464 := by rw [sh31 hS]; rfl
    unfold fX3_copyFrom
    rw [oK_of (sh33 hS), rf33_0 hS, oNn_of, oK_of (sh30 hS), rf30_0 hS, oNn_of, oK_of (sh30 hS), oNn_of, oL_of (sh31 hS), k31, z0, z16, oC_of (sh34 hS) (sh31 hS) (by decide) (by decide) (by decide) (by decide), oU_of, oK_of (sh33 (h1 _ _)), rf33_1 (h1 _ _), oNn_of, oK_of (sh30 (h1 _ _)), rf30_1 (h1 _ _), oNn_of, oC_of (sh35 (h1 _ _)) (sh32 (h1 _ _)) (by decide) (by decide) (by decide) (by decide), oU_of, oK_of (sh33 (h2 _ _ _ _)), oI_of, oK_of (sh30 (h2 _ _ _ _)), oU_of, oK_of (sh33 (h3 _ _ _ _ _ _)), oI_of, oK_of (sh30 (h3 _ _ _ _ _ _)), oU_of]
    rfl
