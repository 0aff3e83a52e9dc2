/-! ===== what can be undone ===== -/
def pF (row r : Nat → Int32) (n : Nat) : Nat → Int32 := fun i => if 4 ≤ i ∧ i < 4 + n then r (i - 4) else row i
set_option maxRecDepth 100000 in
theorem pF_upd (row r : Nat → Int32) (n : Nat) : upd (pF row r n) (4 + n) (r n) = pF row r (n + 1) := by
  funext j
  unfold pF
  by_cases c : j = 4 + n
  · subst c; rw [pk_us, if_pos (by omega)]; congr 1; omega
  · rw [pk_un c]
    by_cases d : 4 ≤ j ∧ j < 4 + n
    · rw [if_pos d, if_pos (by omega)]
    · rw [if_neg d, if_neg (by omega)]
set_option maxRecDepth 100000 in
theorem pF0 (row r : Nat → Int32) : pF row r 0 = row := by funext j; unfold pF; rw [if_neg (by omega)]
set_option maxRecDepth 100000 in
theorem ix31 {x k : Nat} : (31 : Int32) * nI x + nI k = nI (31 * x + k) := by rw [show (31 : Int32) = nI 31 from rfl, nI_mul, nI_add]
set_option maxRecDepth 100000 in
theorem ix4 {k : Nat} : (4 : Int32) + nI k = nI (4 + k) := by rw [show (4 : Int32) = nI 4 from rfl, nI_add]
set_option maxRecDepth 100000 in
theorem m_putBack1 {u : Mm} (h : hSh u) {x : Nat} (hx : x < 18) {N : Nat} {row : Nat → Int32} : ∀ (r k : Nat), k + r = 31 → rX9_putBack_2 (N + r + 1) (wI u 47 (pF row (fun i => mI u 50 (31 * x + i)) k)) 45 (nI x) (nI k) = some ((), wI u 47 (pF row (fun i => mI u 50 (31 * x + i)) 31)) := by
  intro r
  induction r with
  | zero =>
    intro k hk
    have e : k = 31 := by omega
    subst e
    show bX9_putBack_2 _ _ 45 (nI x) (nI 31) = _
    unfold bX9_putBack_2
    rw [if_pos (by decide)]
  | succ r ih =>
    intro k hk
    have h1 : hSh (wI u 47 (pF row (fun i => mI u 50 (31 * x + i)) k)) := h
    show bX9_putBack_2 (rX9_putBack_2 (N + r + 1)) _ 45 (nI x) (nI k) = _
    unfold bX9_putBack_2
    rw [if_neg (show ¬ (31 : Int32) ≤ nI k from nI_ge (b := 31) (by omega) (by decide)), oK_of (sh45 h1), rf45_3 h1, oNn_of, oK_of (sh45 h1), rf45_6 h1, oNn_of, ix31, ix4, oA_k (sh50 h1) (by omega) (by decide), oI_of, oA_k (sh47 h1) (by omega) (by decide), oU_of, clm (by omega), clm (by omega), wI_s, nI_1]
    show rX9_putBack_2 _ (wI u 47 (upd (pF row (fun i => mI u 50 (31 * x + i)) k) (4 + k) ((fun i => mI u 50 (31 * x + i)) k))) 45 (nI x) _ = _
    rw [pF_upd]
    exact ih (k + 1) (by omega)
set_option maxRecDepth 100000 in
theorem m_putBack {u : Mm} (h : hSh u) {x : Nat} (hx : x < 18) : fX9_putBack u 45 (nI x) = some ((), wI u 47 (pF (mI u 47) (fun i => mI u 50 (31 * x + i)) 31)) := by
  have e := m_putBack1 h hx (N := 999968) (row := mI u 47) 31 0 (by decide)
  rw [pF0, wI_id] at e
  exact e
def kF (un row : Nat → Int32) (x n : Nat) : Nat → Int32 := fun i => if 31 * x ≤ i ∧ i < 31 * x + n then row (4 + (i - 31 * x)) else un i
set_option maxRecDepth 100000 in
theorem kF_upd (un row : Nat → Int32) (x n : Nat) : upd (kF un row x n) (31 * x + n) (row (4 + n)) = kF un row x (n + 1) := by
  funext j
  unfold kF
  by_cases c : j = 31 * x + n
  · subst c; rw [pk_us, if_pos (by omega)]; congr 1; omega
  · rw [pk_un c]
    by_cases d : 31 * x ≤ j ∧ j < 31 * x + n
    · rw [if_pos d, if_pos (by omega)]
    · rw [if_neg d, if_neg (by omega)]
set_option maxRecDepth 100000 in
theorem kF0 (un row : Nat → Int32) (x : Nat) : kF un row x 0 = un := by funext j; unfold kF; rw [if_neg (by omega)]
set_option maxRecDepth 100000 in
theorem m_keepAll1 {u : Mm} (h : hSh u) {x : Nat} (hx : x < 18) {N : Nat} {un : Nat → Int32} : ∀ (r k : Nat), k + r = 31 → rX9_keepAll_2 (N + r + 1) (wI u 50 (kF un (mI u 47) x k)) 45 (nI x) (nI k) = some ((), wI u 50 (kF un (mI u 47) x 31)) := by
  intro r
  induction r with
  | zero =>
    intro k hk
    have e : k = 31 := by omega
    subst e
    show bX9_keepAll_2 _ _ 45 (nI x) (nI 31) = _
    unfold bX9_keepAll_2
    rw [if_pos (by decide)]
  | succ r ih =>
    intro k hk
    have h1 : hSh (wI u 50 (kF un (mI u 47) x k)) := h
    show bX9_keepAll_2 (rX9_keepAll_2 (N + r + 1)) _ 45 (nI x) (nI k) = _
    unfold bX9_keepAll_2
    rw [if_neg (show ¬ (31 : Int32) ≤ nI k from nI_ge (b := 31) (by omega) (by decide)), oK_of (sh45 h1), rf45_6 h1, oNn_of, oK_of (sh45 h1), rf45_3 h1, oNn_of, ix31, ix4, oA_k (sh47 h1) (by omega) (by decide), oI_of, oA_k (sh50 h1) (by omega) (by decide), oU_of, clm (by omega), clm (by omega), wI_s, nI_1]
    show rX9_keepAll_2 _ (wI u 50 (upd (kF un (mI u 47) x k) (31 * x + k) (mI u 47 (4 + k)))) 45 (nI x) _ = _
    rw [kF_upd]
    exact ih (k + 1) (by omega)
set_option maxRecDepth 100000 in
theorem m_keepAll {u : Mm} (h : hSh u) {x : Nat} (hx : x < 18) : fX9_keepAll u 45 (nI x) = some ((), wI u 50 (kF (mI u 50) (mI u 47) x 31)) := by
  have e := m_keepAll1 h hx (N := 999968) (un := mI u 50) 31 0 (by decide)
  rw [kF0, wI_id] at e
  exact e
/-- a row moved down by d, its first n numbers -/
def mv (f : Nat → Int32) (d n : Nat) : Nat → Int32 := fun i => if i < n then f (i + d) else f i
set_option maxRecDepth 100000 in
theorem mv_upd (f : Nat → Int32) (d n : Nat) (hd : 0 < d) : upd (mv f d n) n (mv f d n (n + d)) = mv f d (n + 1) := by
  funext j
  by_cases c : j = n
  · subst c; rw [pk_us]; unfold mv; rw [if_neg (by omega), if_pos (by omega)]
  · rw [pk_un c]
    unfold mv
    by_cases d : j < n
    · rw [if_pos d, if_pos (by omega)]
    · rw [if_neg d, if_neg (by omega)]
set_option maxRecDepth 100000 in
theorem mv0 (f : Nat → Int32) (d : Nat) : mv f d 0 = f := by funext j; unfold mv; rw [if_neg (by omega)]
/-- remembered, where there is room -/
def remT (u : Mm) (s : Nat) (x : Int32) : Mm := wI (wI (wI u 50 (kF (mI u 50) (mI u 47) s 31)) 51 (upd (mI u 51) s x)) 45 (upd (mI u 45) 8 (nI (s + 1)))
set_option maxRecDepth 100000 in
theorem m_rem77 {u : Mm} (h : hSh u) {s : Nat} (hs : s < 16) (e : mI u 45 8 = nI s) {x : Int32} : bX9_remember_77 u 45 x = some ((), remT u s x) := by
  have h1 : ∀ f, hSh (wI u 50 f) := fun _ => h
  have h2 : ∀ f g, hSh (wI (wI u 50 f) 51 g) := fun _ _ => h
  unfold bX9_remember_77
  rw [oK_of (sh45 h), oI_of, oR_of (sh45 h), e, m_keepAll h (by omega), oB_of, oK_of (sh45 (h1 _)), rf45_7 (h1 _), oNn_of, oK_of (sh45 (h1 _)), oI_of]
  show oA (wI u 50 _) 51 10 (mI u 45 8) _ = _
  rw [e, oA_k (sh51 (h1 _)) hs (by decide), oU_of, oK_of (sh45 (h2 _ _)), oI_of, oK_of (sh45 (h2 _ _)), oU_of]
  show some ((), wI (wI (wI u 50 _) 51 (upd (mI u 51) (mI u 45 8).toNatClampNeg x)) 45 (upd (mI u 45) 8 (mI u 45 8 + 1))) = _
  rw [e, clm (by omega), nI_1]
  rfl
set_option maxRecDepth 100000 in
theorem m_rem41 {u : Mm} (h : hSh u) (e : mI u 45 8 = nI 16) {x : Int32} {N : Nat} {f : Nat → Int32} : ∀ (r k : Nat), k + r = 15 → rX9_remember_41 (N + r + 1) (wI u 51 (mv f 1 k)) 45 x (nI k) = some ((), remT (wI (wI u 51 (mv f 1 15)) 45 (upd (mI u 45) 8 (nI 15))) 15 x) := by
  intro r
  induction r with
  | zero =>
    intro k hk
    have e' : k = 15 := by omega
    subst e'
    have h1 : hSh (wI u 51 (mv f 1 15)) := h
    show bX9_remember_41 _ _ 45 x (nI 15) = _
    unfold bX9_remember_41
    rw [if_pos (by decide), oK_of (sh45 h1), oI_of, oK_of (sh45 h1), oU_of]
    show bX9_remember_77 (wI (wI u 51 (mv f 1 15)) 45 (upd (mI u 45) 8 (mI u 45 8 - 1))) 45 x = _
    rw [e, nI_pred 15, m_rem77 (u := wI (wI u 51 (mv f 1 15)) 45 (upd (mI u 45) 8 (nI 15))) h (by decide) rfl]
  | succ r ih =>
    intro k hk
    have h1 : hSh (wI u 51 (mv f 1 k)) := h
    show bX9_remember_41 (rX9_remember_41 (N + r + 1)) _ 45 x (nI k) = _
    unfold bX9_remember_41
    rw [if_neg (show ¬ (15 : Int32) ≤ nI k from nI_ge (b := 15) (by omega) (by decide)), nI_1, oK_of (sh45 h1), rf45_7 h1, oNn_of, oK_of (sh45 h1), oNn_of, oA_k (sh51 h1) (by omega) (by decide), oI_of, oA_k (sh51 h1) (by omega) (by decide), oU_of, clm (by omega), clm (by omega), wI_s]
    show rX9_remember_41 _ (wI u 51 (upd (mv f 1 k) k (mv f 1 k (k + 1)))) 45 x _ = _
    rw [mv_upd f 1 k (by decide)]
    exact ih (k + 1) (by omega)
set_option maxRecDepth 100000 in
theorem m_rem11 {u : Mm} (h : hSh u) (e : mI u 45 8 = nI 16) {x : Int32} {N : Nat} {f : Nat → Int32} : ∀ (r k : Nat), k + r = 465 → rX9_remember_11 (N + r + 1) (wI u 50 (mv f 31 k)) 45 x (nI k) = some ((), remT (wI (wI (wI u 50 (mv f 31 465)) 51 (mv (mI u 51) 1 15)) 45 (upd (mI u 45) 8 (nI 15))) 15 x) := by
  intro r
  induction r with
  | zero =>
    intro k hk
    have e' : k = 465 := by omega
    subst e'
    show bX9_remember_11 _ _ 45 x (nI 465) = _
    unfold bX9_remember_11
    rw [if_pos (by decide)]
    have q := m_rem41 (u := wI u 50 (mv f 31 465)) h e (x := x) (N := 999984) (f := mI u 51) 15 0 (by decide)
    rw [mv0, show wI (wI u 50 (mv f 31 465)) 51 (mI u 51) = wI u 50 (mv f 31 465) from wI_id] at q
    exact q
  | succ r ih =>
    intro k hk
    have h1 : hSh (wI u 50 (mv f 31 k)) := h
    show bX9_remember_11 (rX9_remember_11 (N + r + 1)) _ 45 x (nI k) = _
    unfold bX9_remember_11
    have e31 : nI k + 31 = nI (k + 31) := by rw [show (31 : Int32) = nI 31 from rfl, nI_add]
    rw [if_neg (show ¬ (465 : Int32) ≤ nI k from nI_ge (b := 465) (by omega) (by decide)), e31, nI_1, oK_of (sh45 h1), rf45_6 h1, oNn_of, oK_of (sh45 h1), oNn_of, oA_k (sh50 h1) (by omega) (by decide), oI_of, oA_k (sh50 h1) (by omega) (by decide), oU_of, clm (by omega), clm (by omega), wI_s]
    show rX9_remember_11 _ (wI u 50 (upd (mv f 31 k) k (mv f 31 k (k + 31)))) 45 x _ = _
    rw [mv_upd f 31 k (by decide)]
    exact ih (k + 1) (by omega)
/-- remembered -/
def remU (u : Mm) (s : Nat) (x : Int32) : Mm := if s = 16 then remT (wI (wI (wI u 50 (mv (mI u 50) 31 465)) 51 (mv (mI u 51) 1 15)) 45 (upd (mI u 45) 8 (nI 15))) 15 x else remT u s x
set_option maxRecDepth 100000 in
theorem m_remember {u : Mm} (h : hSh u) {s : Nat} (hs : s ≤ 16) (e : mI u 45 8 = nI s) {x : Int32} : fX9_remember u 45 x = some ((), remU u s x) := by
  unfold fX9_remember remU
  rw [oK_of (sh45 h), oI_of, e]
  by_cases c : s = 16
  · subst c
    rw [if_pos (by decide), if_pos rfl]
    have q := m_rem11 h e (x := x) (N := 999534) (f := mI u 50) 465 0 (by decide)
    rw [mv0, wI_id] at q
    exact q
  · rw [if_neg (show ¬ nI s = 16 from fun q => c ((nI_eq (b := 16) (by omega) (by decide)).mp q)), if_neg c, m_rem77 h (by omega) e]
/-! the ring -/
set_option maxRecDepth 100000 in
theorem mod16 : ∀ n, n < 32 → nI n - nI n / 16 * 16 = nI (n % 16) := by decide +kernel
set_option maxRecDepth 100000 in
theorem oC_of {ρ : Type} {X : Option ρ} {u : Mm} {a b n m s d l : Nat} (ha : mK u a = (10, n)) (hb : mK u b = (10, m)) (h1 : s + l ≤ n) (h2 : d + l ≤ m) (hn : n < 2147483648) (hm : m < 2147483648) : oC u a b (nI s) (nI d) (nI l) X = X := by
  unfold oC
  rw [ha, hb]
  refine if_pos ⟨rfl, rfl, nI_pos' (by omega), nI_pos' (by omega), nI_pos' (by omega), ?_, ?_⟩
  · rw [clm (by omega), clm (by omega)]; exact h1
  · rw [clm (by omega), clm (by omega)]; exact h2
set_option maxRecDepth 100000 in
theorem ix29 {n : Nat} : nI n * 29 = nI (29 * n) := by rw [show (29 : Int32) = nI 29 from rfl, nI_mul, Nat.mul_comm]
/-- an act's front kept in the ring -/
def addU (u : Mm) (n s : Nat) (x : Int32) : Mm := wI (wI (wI u 31 (va_cpy (mI u 37) (mI u 31) 0 (29 * n) 29)) 32 (upd (mI u 32) n x)) 30 (upd (upd (mI u 30) 2 (nI ((n + 1) % 16))) 3 (nI (min (s + 1) 16)))
set_option maxRecDepth 100000 in
theorem imin16 : ∀ s, s ≤ 16 → imin (nI (s + 1)) 16 = nI (min (s + 1) 16) := by decide +kernel
set_option maxRecDepth 100000 in
theorem c_add {u : Mm} (h : hSh u) {n s : Nat} (hn : n < 16) (hs : s ≤ 16) (e2 : mI u 30 2 = nI n) (e3 : mI u 30 3 = nI s) {x : Int32} : fX3_add u 30 x 36 = some ((), addU u n s x) := by
  unfold fX3_add addU
  rw [oK_of (sh36 h), rf36_0 h, oNn_of, oK_of (sh30 h), rf30_0 h, oNn_of, oK_of (sh30 h), oI_of, e2, ix29, show (0 : Int32) = nI 0 from rfl, show (29 : Int32) = nI 29 from rfl, oC_of (sh37 h) (sh31 h) (by decide) (by omega) (by decide) (by decide), oU_of, clm (by decide), clm (by omega), clm (by decide)]
  have h1 : ∀ f, hSh (wI u 31 f) := fun _ => h
  have h2 : ∀ f g, hSh (wI (wI u 31 f) 32 g) := fun _ _ => h
  have h3 : ∀ f g i, hSh (wI (wI (wI u 31 f) 32 g) 30 i) := fun _ _ _ => h
  rw [oK_of (sh30 (h1 _)), rf30_1 (h1 _), oNn_of, oK_of (sh30 (h1 _)), oI_of]
  show oA (wI u 31 _) 32 10 (mI u 30 2) _ = _
  rw [e2, oA_k (sh32 (h1 _)) hn (by decide), oU_of, oK_of (sh30 (h2 _ _)), oI_of, if_pos (by decide), oK_of (sh30 (h2 _ _)), oU_of, oK_of (sh30 (h3 _ _ _)), oI_of, c_min, oB_of, oK_of (sh30 (h3 _ _ _)), oU_of, wI_s]
  show some ((), wI (wI (wI u 31 (va_cpy (mI u 37) (mI u 31) 0 (29 * n) 29)) 32 (upd (mI u 32) (mI u 30 2).toNatClampNeg x)) 30 (upd (upd (mI u 30) 2 (mI u 30 2 + 1 - (mI u 30 2 + 1) / 16 * 16)) 3 (imin (mI u 30 3 + 1) 16))) = _
  rw [e2, e3, clm (by omega), nI_1, nI_1, mod16 (n + 1) (by omega), imin16 s hs]
def takeU (u : Mm) (n s : Nat) : Mm := wI (wI u 30 (upd (upd (mI u 30) 2 (nI ((n + 15) % 16))) 3 (nI (s - 1)))) 3 (va_cpy (mI u 31) (mI u 3) (29 * ((n + 15) % 16)) 0 29)
set_option maxRecDepth 100000 in
theorem imax0 : ∀ s, s ≤ 16 → 1 ≤ s → imax (nI s - 1) 0 = nI (s - 1) := by decide +kernel
set_option maxRecDepth 100000 in
theorem c_take {u : Mm} (h : hSh u) {n s : Nat} (hn : n < 16) (hs : s ≤ 16) (h1 : 1 ≤ s) (e2 : mI u 30 2 = nI n) (e3 : mI u 30 3 = nI s) : fX3_takeLatest u 30 2 = some (mI u 32 ((n + 15) % 16), takeU u n s) := by
  have e16 : nI n + 16 - 1 = nI (n + 15) := by rw [show (16 : Int32) = nI 16 from rfl, nI_add]; exact nI_pred (n + 15)
  unfold fX3_takeLatest takeU
  have k1 : ∀ f, hSh (wI u 30 f) := fun _ => h
  have k2 : ∀ f g, hSh (wI (wI u 30 f) 3 g) := fun _ _ => h
  rw [oK_of (sh30 h), oI_of, if_pos (by decide), oK_of (sh30 h), oU_of, oK_of (sh30 (k1 _)), oI_of, c_max, oB_of, oK_of (sh30 (k1 _)), oU_of, wI_s, e2, e16, mod16 _ (by omega)]
  have eM : wI u 30 (upd (mI (wI u 30 (upd (mI u 30) 2 (nI ((n + 15) % 16)))) 30) 3 (imax (mI (wI u 30 (upd (mI u 30) 2 (nI ((n + 15) % 16)))) 30 3 - 1) 0)) = wI u 30 (upd (upd (mI u 30) 2 (nI ((n + 15) % 16))) 3 (nI (s - 1))) := by
    show wI u 30 (upd (upd (mI u 30) 2 (nI ((n + 15) % 16))) 3 (imax (mI u 30 3 - 1) 0)) = _
    rw [e3, imax0 s hs h1]
  rw [eM]
  have q2 : mI (wI u 30 (upd (upd (mI u 30) 2 (nI ((n + 15) % 16))) 3 (nI (s - 1)))) 30 2 = nI ((n + 15) % 16) := rfl
  have k3 := k1 (upd (upd (mI u 30) 2 (nI ((n + 15) % 16))) 3 (nI (s - 1)))
  rw [oK_of (sh30 k3), rf30_0 k3, oNn_of, oK_of (sh30 k3), oI_of, q2, oK_of (sh2 k3), rf2_0 k3, oNn_of, ix29, show (0 : Int32) = nI 0 from rfl, show (29 : Int32) = nI 29 from rfl, oC_of (sh31 k3) (sh3 k3) (by omega) (by decide) (by decide) (by decide), oU_of, clm (by omega), clm (by decide), clm (by decide)]
  have k4 := k2 (upd (upd (mI u 30) 2 (nI ((n + 15) % 16))) 3 (nI (s - 1))) (va_cpy (mI (wI u 30 (upd (upd (mI u 30) 2 (nI ((n + 15) % 16))) 3 (nI (s - 1)))) 31) (mI (wI u 30 (upd (upd (mI u 30) 2 (nI ((n + 15) % 16))) 3 (nI (s - 1)))) 3) (29 * ((n + 15) % 16)) 0 29)
  have q3 : mI (wI (wI u 30 (upd (upd (mI u 30) 2 (nI ((n + 15) % 16))) 3 (nI (s - 1)))) 3 (va_cpy (mI (wI u 30 (upd (upd (mI u 30) 2 (nI ((n + 15) % 16))) 3 (nI (s - 1)))) 31) (mI (wI u 30 (upd (upd (mI u 30) 2 (nI ((n + 15) % 16))) 3 (nI (s - 1)))) 3) (29 * ((n + 15) % 16)) 0 29)) 30 2 = nI ((n + 15) % 16) := rfl
  rw [oK_of (sh30 k4), rf30_1 k4, oNn_of, oK_of (sh30 k4), oI_of, q3, oA_k (sh32 k4) (by omega) (by decide), oI_of, clm (by omega)]
  rfl
set_option maxRecDepth 100000 in
/-- a front in the place of the book's and of the row's -/
theorem Rbk_front {bk : Nat → Nat → Int32} {row f r : Nat → Int32} (h : Rbk bk row) (hf : Rfr f r) (h5 : r 1 = row 5) (h6 : r 2 = row 6) (hr : ∀ i, i < 31 → rg (r i) (rlh (4 + i)).1 (rlh (4 + i)).2) : Rbk (fun a => if a = 2 then f else bk a) (pF row r 31) := by
  have L : ∀ i, i < 127 → (loc i).1 = 2 → i = 4 ∨ (7 ≤ i ∧ i < 35) := by decide +kernel
  have L4 : loc 4 = (2, 28) := rfl
  have L7 : ∀ i, i < 28 → loc (7 + i) = (2, i) := by decide +kernel
  refine ⟨fun i hi => ?_, ⟨fun i hi => ?_, ?_⟩⟩
  · unfold cls
    show pF row r 31 i = (if (loc i).1 = 2 then f else bk (loc i).1) (loc i).2
    by_cases c : (loc i).1 = 2
    · rw [if_pos c]
      rcases L i hi c with q | q
      · subst q
        unfold pF
        rw [if_pos (by omega)]
        exact hf.2.symm
      · have e := L7 (i - 7) (by omega)
        rw [show 7 + (i - 7) = i by omega] at e
        rw [e]
        unfold pF
        rw [if_pos (by omega), hf.1 (i - 7) (by omega)]
        congr 1; omega
    · rw [if_neg c]
      have e : pF row r 31 i = row i := by
        unfold pF
        by_cases q : 4 ≤ i ∧ i < 4 + 31
        · rw [if_pos q]
          rcases (by omega : i = 4 ∨ i = 5 ∨ i = 6 ∨ (7 ≤ i ∧ i < 35)) with w | w | w | w
          · subst w; exact absurd rfl c
          · subst w; exact h5
          · subst w; exact h6
          · have e := L7 (i - 7) (by omega)
            rw [show 7 + (i - 7) = i by omega] at e
            rw [e] at c; exact absurd rfl c
        · rw [if_neg q]
      rw [e]
      exact h.1 i hi
  · unfold pF
    by_cases q : 4 ≤ i ∧ i < 4 + 31
    · rw [if_pos q]
      have e := hr (i - 4) (by omega)
      rw [show 4 + (i - 4) = i by omega] at e
      exact e
    · rw [if_neg q]; exact h.2.1 i hi
  · exact h.2.2
set_option maxRecDepth 100000 in
theorem Rpa_take {c30 c31 c32 m45 m50 m51 row : Nat → Int32} (h : Rpa c30 c31 c32 m45 m50 m51 row) (hs : ¬ m45 8 = 0) : ∃ n s, n < 16 ∧ s ≤ 16 ∧ 1 ≤ s ∧ c30 2 = nI n ∧ c30 3 = nI s ∧ m45 8 = nI s ∧ Rfr (fun i => c31 (29 * ((n + 15) % 16) + i)) (fun i => m50 (31 * (s - 1) + i)) ∧ m50 (31 * (s - 1) + 1) = row 5 ∧ m50 (31 * (s - 1) + 2) = row 6 ∧ c32 ((n + 15) % 16) = 260 + m51 (s - 1) ∧ rg (m51 (s - 1)) 0 3 ∧ (∀ i, i < 31 → rg (m50 (31 * (s - 1) + i)) (rlh (4 + i)).1 (rlh (4 + i)).2)
    ∧ ∀ c30' c31' m45' row', c30' 2 = nI ((n + 15) % 16) → c30' 3 = nI (s - 1) → m45' 8 = nI (s - 1) → row' 5 = row 5 → row' 6 = row 6 → (∀ i, c31' i = c31 i) → Rpa c30' c31' c32 m45' m50 m51 row' := by
  obtain ⟨n, s, h1, h2, h3, h4, h5, h6⟩ := h
  have hs' : 1 ≤ s := by
    rcases Nat.eq_zero_or_pos s with q | q
    · subst q; exact absurd h5 hs
    · exact q
  have e := h6 (s - 1) (by omega)
  rw [show (n + 16 - s + (s - 1)) % 16 = (n + 15) % 16 by omega] at e
  refine ⟨n, s, h1, h2, hs', h3, h4, h5, e.1, e.2.1, e.2.2.1, e.2.2.2.1, e.2.2.2.2.1, e.2.2.2.2.2, ?_⟩
  intro c30' c31' m45' row' a1 a2 a3 a4 a5 a6
  refine ⟨(n + 15) % 16, s - 1, by omega, by omega, a1, a2, a3, fun j hj => ?_⟩
  have g := h6 j (by omega)
  rw [show ((n + 15) % 16 + 16 - (s - 1) + j) % 16 = (n + 16 - s + j) % 16 by omega, a4, a5]
  rw [show c31' = c31 from funext a6]
  exact g
set_option maxRecDepth 100000 in
theorem Rfr_cpy {f g r : Nat → Int32} {k : Nat} (h : Rfr (fun i => f (k + i)) r) : Rfr (va_cpy f g k 0 29) r := by
  refine ⟨fun i hi => ?_, ?_⟩
  · unfold va_cpy; rw [if_pos (by omega)]; exact h.1 i hi
  · unfold va_cpy; rw [if_pos (by omega)]; exact h.2
set_option maxRecDepth 100000 in
theorem s20 {LR : Mm → Prop} (hF : LRf LR) : hwS_20 (Rel LR) := by
  intro u h
  have hS := h.1
  have hT : hSh (mT u) := hS
  have hpa := h.2.2.2.2.2.1
  by_cases c : mI u 45 8 = 0
  · obtain ⟨n, s, h1, h2, h3, h4, h5, h6⟩ := hpa
    have e0 : mI u 30 3 = 0 := by rw [h4, ← h5, c]
    refine ⟨-3, cRe u (-3) 2, mRe (mT (cRe u (-3) 2)) (-3) 3, ?_, hR45_Rel hS, ?_, Rel_re hF h (by decide)⟩
    · show fX8_undo u 0 = _
      unfold fX8_undo
      rw [oK_of (sh0 hS), rf0_5 hS, oNn_of, oK_of (sh30 hS), oI_of, e0, if_pos rfl, oR_of (sh0 hS), c_refuse hS (-3) 2 (by decide), oB_of]
    · have hv : hSh (mT (cRe u (-3) 2)) := hS
      have ev : mI (mT (cRe u (-3) 2)) 45 8 = 0 := c
      show fX9_undo (cRe u (-3) 2) 45 = _
      unfold fX9_undo
      rw [oK_of (sh45 (show hSh (cRe u (-3) 2) from hS)), oT, oK_of (sh45 hv), oI_of, ev, if_pos rfl, oR_of (sh45 hv), m_refuse hv (-3) 3 (by decide), oB_of]
  · obtain ⟨n, s, p1, p2, p3, p4, p5, p6, p7, p8, p9, p10, p11, p12, p13⟩ := Rpa_take hpa c
    have c3 : ¬ mI u 30 3 = 0 := by rw [p5, ← p6]; exact c
    obtain ⟨w, hw, ew⟩ := rg_nI (M := 3) p11 (by decide)
    have e260 : mI u 32 ((n + 15) % 16) - 260 = nI w := by
      rw [p10, ew]
      exact (by decide +kernel : ∀ w, w ≤ 3 → (260 : Int32) + nI w - 260 = nI w) w hw
    have hc : fX8_undo u 0 = some (nI w, wI (takeU u n s) 0 (upd (mI u 0) 18 0)) := by
      have hk : hSh (takeU u n s) := hS
      unfold fX8_undo
      rw [oK_of (sh0 hS), rf0_5 hS, oNn_of, oK_of (sh30 hS), oI_of, if_neg c3, oK_of (sh0 hS), oNn_of, oK_of (sh0 hS), rf0_0 hS, oNn_of, oK_of (sh1 hS), rf1_0 hS, oNn_of, oR_of (sh30 hS), c_take hS p1 p2 p3 p4 p5, oB_of, oR_of (sh0 hk), c_accept hk, oB_of, e260]
      rfl
    have hm : ∀ v, hSh v → mI v 45 8 = nI s → mI v 51 (s - 1) = nI w → fX9_undo v 45 = some (nI w, wI (wI (wI (mT v) 45 (upd (mI (mT v) 45) 8 (nI (s - 1)))) 47 (pF (mI v 47) (fun i => mI v 50 (31 * (s - 1) + i)) 31)) 45 (upd (upd (mI (mT v) 45) 8 (nI (s - 1))) 1 0)) := by
      intro v hv e8 e51
      have hv1 : hSh (mT v) := hv
      have hv2 : ∀ f, hSh (wI (mT v) 45 f) := fun _ => hv
      have hv3 : ∀ f g, hSh (wI (wI (mT v) 45 f) 47 g) := fun _ _ => hv
      have e8' : mI (mT v) 45 8 = nI s := e8
      have es1 : nI s - 1 = nI (s - 1) := by
        have := nI_pred (s - 1)
        rw [show s - 1 + 1 = s by omega] at this
        exact this
      unfold fX9_undo
      rw [oK_of (sh45 hv), oT, oK_of (sh45 hv1), oI_of, e8', if_neg (nI_ne0 (by omega) (by omega)), oK_of (sh45 hv1), oI_of, oK_of (sh45 hv1), oU_of, es1, oK_of (sh45 (hv2 _)), oI_of]
      show oR _ 45 9 (oB (fX9_putBack (wI (mT v) 45 (upd (mI (mT v) 45) 8 (nI (s - 1)))) 45 (nI (s - 1))) _) = _
      rw [oR_of (sh45 (hv2 _)), m_putBack (hv2 _) (by omega), oB_of, oK_of (sh45 (hv3 _ _)), rf45_7 (hv3 _ _), oNn_of, oK_of (sh45 (hv3 _ _)), oI_of]
      show oA _ 51 10 (nI (s - 1)) (oI (mI v 51 (nI (s - 1)).toNatClampNeg) _) = _
      rw [oA_k (sh51 (hv3 _ _)) (by omega) (by decide), oI_of, clm (by omega), e51, oR_of (sh45 (hv3 _ _)), m_ans (sh45 (hv3 _ _)) (by omega), oB_of]
      rfl
    have hm1 := hm (wI (takeU u n s) 0 (upd (mI u 0) 18 0)) hS p6 ew
    refine ⟨_, _, _, hc, hR45_Rel hS, hm1, ?_⟩
    refine Rel_set hF h rfl rfl rfl (fun a h0 h1 h2 h3 h4 => ?_) (Rbk_front (f := va_cpy (mI u 31) (mI u 3) (29 * ((n + 15) % 16)) 0 29) h.2.1 (Rfr_cpy p7) p8 p9 p12) (fun j hj => ?_) rfl ⟨?_, fun i hi => ?_⟩ ?_ rfl ?_
    · unfold mT takeU; simp only [mI_wI]; repeat rw [if_neg (by omega)]
    · rcases (by omega : j = 2 ∨ j ≠ 2) with q | q
      · subst q; rfl
      · unfold mT takeU; simp only [mI_wI]; repeat rw [if_neg (by omega)]
    · rfl
    · unfold pF; rw [if_neg (by omega)]
    · exact Rmi_ok (Rmi_upd (k := 8) (Rmi_upd (k := 0) h.2.2.1 (by decide)) (by decide))
    · exact p13 _ _ _ _ rfl rfl rfl (by unfold pF; rw [if_pos (by omega)]; exact p8) (by unfold pF; rw [if_pos (by omega)]; exact p9) (fun _ => rfl)
