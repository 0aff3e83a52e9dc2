/-! ===== an order's clause, from its head on ===== -/
section
variable {t : Tk} {q : Bool} {c m : Mm} {k p L nc nl np no n : Nat} {cd wt op ar pl pa : Nat → Int32}
def hdO (x : Int32) : Nat → Int32
  | 0 => -1
  | j + 1 => if x = nI (260 + j) then nI j else hdO x j
set_option maxRecDepth 100000 in
theorem hdO_s (x : Int32) (j : Nat) : hdO x (j + 1) = if x = nI (260 + j) then nI j else hdO x j := rfl
set_option maxRecDepth 100000 in
theorem hdO_y : ∀ j, j < 4 → hdO (nI (260 + j)) 4 = nI j := by decide +kernel
set_option maxRecDepth 100000 in
theorem hdO_n {x : Int32} : ∀ n, (∀ j, j < n → ¬ x = nI (260 + j)) → hdO x n = -1
  | 0, _ => rfl
  | n + 1, h => by rw [hdO_s, if_neg (h n (by omega))]; exact hdO_n n (fun j hj => h j (by omega))
set_option maxRecDepth 100000 in
theorem r_headO (hT : TkO t) (hm : hSh m) (hk : k ≤ tM t) {N : Nat} : ∀ (r j : Nat), j + r = 4 → rX9_readOrder_4 (N + r + 1) (rS t m k nc nl np no op ar pl pa) 45 (hdO (tK t k) j) (nI j) = (if hdO (tK t k) 4 = -1 then bX9_readOrder_53 (rS t m k nc nl np no op ar pl pa) 45 (hdO (tK t k) 4) 45 else if 12 ≤ mI m 45 21 then bX9_readOrder_53 (rS t m k nc nl np no op ar pl pa) 45 (hdO (tK t k) 4) 45 else bX9_readOrder_54 (rS t m k nc nl np no op ar pl pa) 45 (hdO (tK t k) 4) 1 45) := by
  have hs : hSh (rS t m k nc nl np no op ar pl pa) := hm
  intro r
  induction r with
  | zero =>
    intro j hj
    have e : j = 4 := by omega
    subst e
    show bX9_readOrder_4 _ _ 45 _ _ = _
    unfold bX9_readOrder_4
    rw [if_pos (show (4 : Int32) ≤ nI 4 from Int32.le_refl _), oK_of (sh45 hs), oI_of, rS_21]
  | succ r ih =>
    intro j hj
    have i1 := ih (j + 1) (by omega)
    show bX9_readOrder_4 (rX9_readOrder_4 (N + r + 1)) _ 45 _ _ = _
    unfold bX9_readOrder_4 bX9_readOrder_27
    rw [if_neg (show ¬ (4 : Int32) ≤ nI j from nI_ge (b := 4) (by omega) (by decide)), oK_of (sh45 hs), rf45_45 hs, oNn_of, oA_k (sh68 hs) (by omega) (by decide), oJ_of, clm (by omega), oR_of (sh45 hs), r_wd hT hm hk (i := 4 + j) (by omega) ((cw68 hs (by omega)).trans (cs68w j (by omega))), oB_of, nI_1]
    rw [hdO_s (tK t k) j] at i1
    rw [show 256 + (4 + j) = 260 + j by omega]
    by_cases z : tK t k = nI (260 + j)
    · rw [if_pos z, if_neg (by decide)]
      rw [if_pos z] at i1
      exact i1
    · rw [if_neg z, if_pos rfl]
      rw [if_neg z] at i1
      exact i1
set_option maxRecDepth 100000 in
theorem r_readOrder (hT : TkO t) (hm : hSh m) (hk : k ≤ tM t) : fX9_readOrder (rS t m k nc nl np no op ar pl pa) 45 = (if hdO (tK t k) 4 = -1 then bX9_readOrder_53 (rS t m k nc nl np no op ar pl pa) 45 (hdO (tK t k) 4) 45 else if 12 ≤ mI m 45 21 then bX9_readOrder_53 (rS t m k nc nl np no op ar pl pa) 45 (hdO (tK t k) 4) 45 else bX9_readOrder_54 (rS t m k nc nl np no op ar pl pa) 45 (hdO (tK t k) 4) 1 45) := by
  have h := r_headO (nc := nc) (nl := nl) (np := np) (no := no) (op := op) (ar := ar) (pl := pl) (pa := pa) hT hm hk (N := 999995) 4 0 (by omega)
  unfold fX9_readOrder
  rw [show hwF = 999995 + 4 + 1 from rfl]
  exact h
set_option maxRecDepth 100000 in
theorem r_53bad (hm : LXm t q m) {x : Int32} : bX9_readOrder_53 (rS t m k nc nl np no op ar pl pa) 45 x 45 = some ((), rS t (mB t m k) k nc nl np no op ar pl pa) := by
  have hs : hSh (rS t m k nc nl np no op ar pl pa) := hm.1
  have hB : hSh (rS t (mB t m k) k nc nl np no op ar pl pa) := hm.1
  unfold bX9_readOrder_53 bX9_readOrder_54
  rw [oR_of (sh45 hs), r_must0 hm rfl, oB_of, oK_of (sh45 hB), oI_of, rS_19B, if_neg (by decide)]
def mO (m : Mm) (n : Nat) (hd : Int32) : Mm := w9 (wI (wI m 45 (upd (mI m 45) 21 (nI (n + 1)))) 69 (zF (mI m 69) 10 n 10)) (10 * n) hd
/-- the order, its clause cleared -/
def r_O (u : Mm) (x : Int32) (n : Nat) : Option (Unit × Mm) := if x = 3 then bX9_readOrder_146 u 45 x (nI (10 * n)) else oB (fX9_readSum u 45 (nI (10 * n + 1))) (fun _ u31 => (if x = 2 then bX9_readOrder_140 u31 45 x (nI (10 * n)) 655 45 else bX9_readOrder_140 u31 45 x (nI (10 * n)) 52 45))
set_option maxRecDepth 100000 in
theorem r_85 (hm : hSh m) (hn : n < 12) {hd : Int32} {N : Nat} : ∀ d r, r + d = 10 → rX9_readOrder_85 (N + d + 1) (rS t (wI (wI m 45 (upd (mI m 45) 21 (nI (n + 1)))) 69 (zF (mI m 69) 10 n r)) k nc nl np no op ar pl pa) 45 hd (nI (10 * n)) (nI r) = r_O (rS t (mO m n hd) k nc nl np no op ar pl pa) hd n := by
  have hs : ∀ m', hSh m' → hSh (rS t m' k nc nl np no op ar pl pa) := fun _ h => h
  have h1 : ∀ g, hSh (wI (wI m 45 (upd (mI m 45) 21 (nI (n + 1)))) 69 g) := fun _ => hm
  have hA : hSh (mO m n hd) := hm
  intro d
  induction d with
  | zero =>
    intro r hr
    have e : r = 10 := by omega
    subst e
    show bX9_readOrder_85 _ _ 45 hd (nI (10 * n)) (nI 10) = _
    unfold bX9_readOrder_85 r_O
    rw [if_pos (by decide), oK_of (sh45 (hs _ (h1 _))), rf45_46 (hs _ (h1 _)), oNn_of, oA_k (sh69 (hs _ (h1 _))) (by omega) (by decide), clm (by omega), oU_of, rS_69u, nI_1]
    by_cases z : hd = 3
    · rw [if_pos z, if_pos z]; rfl
    · rw [if_neg z, if_neg z]
      exact oR_of (sh45 (hs _ hA))
  | succ d ih =>
    intro r hr
    show bX9_readOrder_85 (rX9_readOrder_85 (N + d + 1)) _ 45 hd (nI (10 * n)) (nI r) = _
    unfold bX9_readOrder_85
    rw [if_neg (show ¬ (10 : Int32) ≤ nI r from nI_ge (b := 10) (by omega) (by decide)), oK_of (sh45 (hs _ (h1 _))), rf45_46 (hs _ (h1 _)), oNn_of, nI_add, oA_k (sh69 (hs _ (h1 _))) (by omega) (by decide), clm (by omega), oU_of, rS_69u, nI_1]
    have e : w9 (wI (wI m 45 (upd (mI m 45) 21 (nI (n + 1)))) 69 (zF (mI m 69) 10 n r)) (10 * n + r) 0 = wI (wI m 45 (upd (mI m 45) 21 (nI (n + 1)))) 69 (zF (mI m 69) 10 n (r + 1)) := by
      show wI (wI (wI m 45 (upd (mI m 45) 21 (nI (n + 1)))) 69 (zF (mI m 69) 10 n r)) 69 (upd (zF (mI m 69) 10 n r) (10 * n + r) 0) = _
      rw [wI_s, zF_u]
    rw [e]
    exact ih (r + 1) (by omega)
set_option maxRecDepth 100000 in
theorem r_54O (hm : LXm t q m) (hk : k < tM t) (hn : n < 12) (h21 : mI m 45 21 = nI n) {hd : Int32} : bX9_readOrder_54 (rS t m k nc nl np no op ar pl pa) 45 hd 1 45 = r_O (rS t (mO m n hd) (k + 1) nc nl np no op ar pl pa) hd n := by
  have hs : ∀ k, hSh (rS t m k nc nl np no op ar pl pa) := fun _ => hm.1
  have lp := r_85 (t := t) (k := k + 1) (nc := nc) (nl := nl) (np := np) (no := no) (op := op) (ar := ar) (pl := pl) (pa := pa) hm.1 hn (hd := hd) (N := 999989) 10 0 (by decide)
  have z0 : zF (mI m 69) 10 n 0 = mI m 69 := by funext i; unfold zF; rw [if_neg (by omega)]
  rw [z0, show wI (wI m 45 (upd (mI m 45) 21 (nI (n + 1)))) 69 (mI m 69) = wI m 45 (upd (mI m 45) 21 (nI (n + 1))) from wI_id (u := wI m 45 (upd (mI m 45) 21 (nI (n + 1)))) (a := 69)] at lp
  unfold bX9_readOrder_54
  have e10 : (10 : Int32) * nI n = nI (10 * n) := by rw [show (10 : Int32) = nI 10 from rfl, nI_mul]
  rw [oR_of (sh45 (hs _)), r_must1 hm hk (by decide), oB_of, oK_of (sh45 (hs _)), oI_of, rS_19 hm.2.2.1, if_pos rfl, oK_of (sh45 (hs _)), oI_of, rS_21, h21, oI_of, e10, oK_of (sh45 (hs _)), oI_of, oK_of (sh45 (hs _)), nI_1, oU_of, rS_21u]
  exact lp
set_option maxRecDepth 100000 in
theorem mO_BFr {m : Mm} {n : Nat} {hd : Int32} : BFr m (mO m n hd) := BFr_trans BFr_21 (BFr_trans BFr_69 BFr_w9)
set_option maxRecDepth 100000 in
theorem mO_21 {m : Mm} {n : Nat} {hd : Int32} : mI (mO m n hd) 45 21 = nI (n + 1) := by
  show upd (mI m 45) 21 (nI (n + 1)) 21 = _
  rw [pk_us]
set_option maxRecDepth 100000 in
theorem mO_lo {m : Mm} {n j : Nat} {hd : Int32} (hj : j < 10 * n) : mI (mO m n hd) 69 j = mI m 69 j := by
  unfold mO
  rw [w9_un (by omega)]
  show zF (mI m 69) 10 n 10 j = _
  unfold zF
  rw [if_neg (by omega)]
set_option maxRecDepth 100000 in
theorem mO_z {m : Mm} {n j : Nat} {hd : Int32} (h1 : 10 * n < j) (h2 : j < 10 * n + 10) : mI (mO m n hd) 69 j = 0 := by
  unfold mO
  rw [w9_un (by omega)]
  show zF (mI m 69) 10 n 10 j = _
  unfold zF
  rw [if_pos (by omega)]
set_option maxRecDepth 100000 in
theorem oB_oB {α β γ : Type} {X : Option (α × Mm)} {f : α → Mm → Option (β × Mm)} {g : β → Mm → Option (γ × Mm)} : oB (oB X f) g = oB X (fun v u => oB (f v u) g) := by
  cases X with
  | none => rfl
  | some v => rfl
end
