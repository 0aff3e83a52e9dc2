/-! ===== clauses: what is written beside ===== -/
section
variable {t : Tk} {q : Bool} {c m : Mm} {k p L nc nl np no : Nat} {cd wt op ar pl pa : Nat → Int32}
set_option maxRecDepth 100000 in
theorem cS_b {a : Nat} {f : Nat → Int32} (h : a ≠ 19 ∧ a ≠ 23 ∧ a ≠ 24 ∧ a ≠ 25) : wI (cS c k p L cd wt) a f = cS (wI c a f) k p L cd wt := by
  obtain ⟨h1, h2, h3, h4⟩ := h
  refine Prod.ext rfl (Prod.ext rfl (Prod.ext (funext fun b => ?_) (Prod.ext rfl rfl)))
  show (if b = a then f else if b = 19 then upd (upd (c.2.2.1 19) 4 (nI k)) 5 (nI p) else if b = 23 then upd (c.2.2.1 23) 2 (nI L) else if b = 24 then cd else if b = 25 then wt else c.2.2.1 b) = if b = 19 then upd (upd (if 19 = a then f else c.2.2.1 19) 4 (nI k)) 5 (nI p) else if b = 23 then upd (if 23 = a then f else c.2.2.1 23) 2 (nI L) else if b = 24 then cd else if b = 25 then wt else if b = a then f else c.2.2.1 b
  rw [if_neg (Ne.symm h1), if_neg (Ne.symm h2)]
  by_cases z : b = a
  · subst z; rw [if_pos rfl, if_neg h1, if_neg h2, if_neg h3, if_neg h4, if_pos rfl]
  · rw [if_neg z, if_neg z]
set_option maxRecDepth 100000 in
theorem cS_23 {j : Nat} {x : Int32} (hj : j ≠ 2) : wI (cS c k p L cd wt) 23 (upd (mI (cS c k p L cd wt) 23) j x) = cS (wI c 23 (upd (mI c 23) j x)) k p L cd wt := by
  refine Prod.ext rfl (Prod.ext rfl (Prod.ext (funext fun b => ?_) (Prod.ext rfl rfl)))
  show (if b = 23 then upd (upd (c.2.2.1 23) 2 (nI L)) j x else if b = 19 then upd (upd (c.2.2.1 19) 4 (nI k)) 5 (nI p) else if b = 23 then upd (c.2.2.1 23) 2 (nI L) else if b = 24 then cd else if b = 25 then wt else c.2.2.1 b) = if b = 19 then upd (upd (c.2.2.1 19) 4 (nI k)) 5 (nI p) else if b = 23 then upd (upd (c.2.2.1 23) j x) 2 (nI L) else if b = 24 then cd else if b = 25 then wt else if b = 23 then upd (c.2.2.1 23) j x else c.2.2.1 b
  by_cases z : b = 23
  · subst z; rw [if_pos rfl, if_neg (by decide), if_pos rfl, upd_c hj.symm]
  · rw [if_neg z, if_neg z, if_neg z, if_neg z]
set_option maxRecDepth 100000 in
theorem rS_b {a : Nat} {f : Nat → Int32} (h : a ≠ 45 ∧ a ≠ 56 ∧ a ≠ 57 ∧ a ≠ 58 ∧ a ≠ 59) : wI (rS t m k nc nl np no op ar pl pa) a f = rS t (wI m a f) k nc nl np no op ar pl pa := by
  obtain ⟨h1, h2, h3, h4, h5⟩ := h
  refine Prod.ext rfl (Prod.ext rfl (Prod.ext (funext fun b => ?_) (Prod.ext rfl rfl)))
  show (if b = a then f else if b = 45 then rF t (m.2.2.1 45) k nc nl np no else if b = 56 then op else if b = 57 then ar else if b = 58 then pl else if b = 59 then pa else m.2.2.1 b) = if b = 45 then rF t (if 45 = a then f else m.2.2.1 45) k nc nl np no else if b = 56 then op else if b = 57 then ar else if b = 58 then pl else if b = 59 then pa else if b = a then f else m.2.2.1 b
  rw [if_neg (Ne.symm h1)]
  by_cases z : b = a
  · subst z; rw [if_pos rfl, if_neg h1, if_neg h2, if_neg h3, if_neg h4, if_neg h5, if_pos rfl]
  · rw [if_neg z, if_neg z]
set_option maxRecDepth 100000 in
theorem rF_u {f : Nat → Int32} {j : Nat} {x : Int32} (h : j ≠ 14 ∧ j ≠ 15 ∧ j ≠ 16 ∧ j ≠ 23 ∧ j ≠ 26 ∧ j ≠ 29 ∧ j ≠ 30) : upd (rF t f k nc nl np no) j x = rF t (upd f j x) k nc nl np no := by
  obtain ⟨h1, h2, h3, h4, h5, h6, h7⟩ := h
  funext i
  by_cases z : i = j
  · subst z
    rw [pk_us]
    unfold rF
    rw [if_neg h1, if_neg h2, if_neg h3, if_neg h4, if_neg h5, if_neg h6, if_neg h7, pk_us]
  · rw [pk_un z]
    unfold rF
    rw [pk_un z]
set_option maxRecDepth 100000 in
theorem rS_j {j : Nat} {x : Int32} (h : j ≠ 14 ∧ j ≠ 15 ∧ j ≠ 16 ∧ j ≠ 23 ∧ j ≠ 26 ∧ j ≠ 29 ∧ j ≠ 30) : wI (rS t m k nc nl np no op ar pl pa) 45 (upd (mI (rS t m k nc nl np no op ar pl pa) 45) j x) = rS t (wI m 45 (upd (mI m 45) j x)) k nc nl np no op ar pl pa := by
  refine Prod.ext rfl (Prod.ext rfl (Prod.ext (funext fun b => ?_) (Prod.ext rfl rfl)))
  show (if b = 45 then upd (rF t (m.2.2.1 45) k nc nl np no) j x else if b = 45 then rF t (m.2.2.1 45) k nc nl np no else if b = 56 then op else if b = 57 then ar else if b = 58 then pl else if b = 59 then pa else m.2.2.1 b) = if b = 45 then rF t (upd (m.2.2.1 45) j x) k nc nl np no else if b = 56 then op else if b = 57 then ar else if b = 58 then pl else if b = 59 then pa else if b = 45 then upd (m.2.2.1 45) j x else m.2.2.1 b
  rw [rF_u h]
  by_cases z : b = 45
  · rw [if_pos z, if_pos z]
  · rw [if_neg z, if_neg z, if_neg z, if_neg z]
set_option maxRecDepth 100000 in
theorem cS_26 {n : Nat} {x : Int32} : wI (cS c k p L cd wt) 26 (upd (mI (cS c k p L cd wt) 26) n x) = cS (wI c 26 (upd (mI c 26) n x)) k p L cd wt := cS_b (by decide)
set_option maxRecDepth 100000 in
theorem cS_27 {n : Nat} {x : Int32} : wI (cS c k p L cd wt) 27 (upd (mI (cS c k p L cd wt) 27) n x) = cS (wI c 27 (upd (mI c 27) n x)) k p L cd wt := cS_b (by decide)
set_option maxRecDepth 100000 in
theorem cS_28 {n : Nat} {x : Int32} : wI (cS c k p L cd wt) 28 (upd (mI (cS c k p L cd wt) 28) n x) = cS (wI c 28 (upd (mI c 28) n x)) k p L cd wt := cS_b (by decide)
set_option maxRecDepth 100000 in
theorem cS_f6 : mI (cS c k p L cd wt) 23 6 = mI c 23 6 := rfl
/-! a clause begins: the class -/
def stF (f : Nat → Int32) (n r : Nat) : Nat → Int32 := fun i => if 4 * n ≤ i ∧ i < 4 * n + r then -1 else f i
set_option maxRecDepth 100000 in
theorem stF_u {f : Nat → Int32} {n r : Nat} : upd (stF f n r) (4 * n + r) (-1) = stF f n (r + 1) := by
  funext i
  unfold stF
  by_cases z : i = 4 * n + r
  · subst z; rw [pk_us, if_pos (by omega)]
  · rw [pk_un z]
    by_cases y : 4 * n ≤ i ∧ i < 4 * n + r
    · rw [if_pos y, if_pos (by omega)]
    · rw [if_neg y, if_neg (by omega)]
def bCl (c : Mm) (n : Nat) (x : Int32) : Mm := wI (wI (wI (wI c 26 (upd (mI c 26) n x)) 27 (upd (mI c 27) n 1)) 28 (stF (mI c 28) n 4)) 23 (upd (mI c 23) 6 (nI (n + 1)))
set_option maxRecDepth 100000 in
theorem c_begin31 (hc : hSh c) {n : Nat} (hn : n < 12) (h6 : mI c 23 6 = nI n) {f : Nat → Int32} {N : Nat} : ∀ d r, r + d = 4 → rX6_beginClause_31 (N + d + 1) (cS (wI c 28 (stF f n r)) k p L cd wt) 23 (nI r) = some ((), cS (wI (wI c 28 (stF f n 4)) 23 (upd (mI c 23) 6 (nI (n + 1)))) k p L cd wt) := by
  have hs : ∀ g, hSh (cS (wI c 28 g) k p L cd wt) := fun _ => hc
  have e6 : ∀ g, mI (cS (wI c 28 g) k p L cd wt) 23 6 = nI n := fun _ => h6
  intro d
  induction d with
  | zero =>
    intro r hr
    have e : r = 4 := by omega
    subst e
    show bX6_beginClause_31 _ _ 23 (nI 4) = _
    unfold bX6_beginClause_31
    rw [if_pos (by decide), oK_of (sh23 (hs _)), oI_of, e6, nI_1, oK_of (sh23 (hs _)), oU_of, cS_23 (by decide)]
    rfl
  | succ d ih =>
    intro r hr
    show bX6_beginClause_31 (rX6_beginClause_31 (N + d + 1)) _ 23 (nI r) = _
    unfold bX6_beginClause_31
    have ix : nI n * 4 + nI r = nI (4 * n + r) := by rw [show (4 : Int32) = nI 4 from rfl, nI_mul, nI_add, Nat.mul_comm]
    rw [if_neg (show ¬ (4 : Int32) ≤ nI r from nI_ge (b := 4) (by omega) (by decide)), oK_of (sh23 (hs _)), rf23_5 (hs _), oNn_of, oK_of (sh23 (hs _)), oI_of, e6, ix, oA_k (sh28 (hs _)) (by omega) (by decide), clm (by omega), oU_of, cS_28, nI_1]
    have e : wI (wI c 28 (stF f n r)) 28 (upd (mI (wI c 28 (stF f n r)) 28) (4 * n + r) (-1)) = wI c 28 (stF f n (r + 1)) := by
      show wI (wI c 28 (stF f n r)) 28 (upd (stF f n r) (4 * n + r) (-1)) = _
      rw [wI_s, stF_u]
    rw [e]
    exact ih (r + 1) (by omega)
set_option maxRecDepth 100000 in
theorem c_beginClause (hc : hSh c) {n : Nat} (hn : n < 12) (h6 : mI c 23 6 = nI n) {x : Int32} : fX6_beginClause (cS c k p L cd wt) 23 x = some ((), cS (bCl c n x) k p L cd wt) := by
  have hs : ∀ c', hSh c' → hSh (cS c' k p L cd wt) := fun _ h => h
  have h1 : hSh (wI c 26 (upd (mI c 26) n x)) := hc
  have h2 : hSh (wI (wI c 26 (upd (mI c 26) n x)) 27 (upd (mI c 27) n 1)) := hc
  have z0 : ∀ g : Nat → Int32, stF g n 0 = g := fun g => by funext i; unfold stF; rw [if_neg (by omega)]
  have lp := c_begin31 (k := k) (p := p) (L := L) (cd := cd) (wt := wt) h2 hn (show mI (wI (wI c 26 (upd (mI c 26) n x)) 27 (upd (mI c 27) n 1)) 23 6 = nI n from h6) (f := mI c 28) (N := 999995) 4 0 (by decide)
  rw [z0, show wI (wI (wI c 26 (upd (mI c 26) n x)) 27 (upd (mI c 27) n 1)) 28 (mI c 28) = wI (wI c 26 (upd (mI c 26) n x)) 27 (upd (mI c 27) n 1) from wI_id (u := wI (wI c 26 (upd (mI c 26) n x)) 27 (upd (mI c 27) n 1)) (a := 28)] at lp
  unfold fX6_beginClause
  rw [oK_of (sh23 (hs _ hc)), oI_of, cS_f6, h6, if_neg (show ¬ (12 : Int32) ≤ nI n from nI_ge (b := 12) hn (by decide)), oK_of (sh23 (hs _ hc)), rf23_3 (hs _ hc), oNn_of, oK_of (sh23 (hs _ hc)), oI_of, oA_k (sh26 (hs _ hc)) hn (by decide), clm (by omega), oU_of, cS_26, oK_of (sh23 (hs _ h1)), rf23_4 (hs _ h1), oNn_of, oK_of (sh23 (hs _ h1)), oI_of, show mI (cS (wI c 26 (upd (mI c 26) n x)) k p L cd wt) 23 6 = nI n from h6, oA_k (sh27 (hs _ h1)) hn (by decide), clm (by omega), oU_of, cS_27]
  exact lp
set_option maxRecDepth 100000 in
theorem c_beginPlace (hc : hSh c) {n : Nat} (hn : n < 12) (h6 : mI c 23 6 = nI (n + 1)) {j : Nat} (hj : j < 4) (hL : L < 401) : fX6_beginPlace (cS c k p L cd wt) 23 (nI j) = some ((), cS (wI c 28 (upd (mI c 28) (4 * n + j) (nI (L + 1)))) k p (L + 1) (upd cd L 288) (upd wt L 0)) := by
  have hs : ∀ k p L cd wt, hSh (cS c k p L cd wt) := fun _ _ _ _ _ => hc
  have ix : (nI (n + 1) - 1) * 4 + nI j = nI (4 * n + j) := by rw [nI_pred, show (4 : Int32) = nI 4 from rfl, nI_mul, nI_add, Nat.mul_comm]
  unfold fX6_beginPlace
  rw [oR_of (sh23 (hs _ _ _ _ _)), c_put hc hL, oB_of, oK_of (sh23 (hs _ _ _ _ _)), oI_of, cS_f6, h6, if_neg (nI_nle (by omega) (by omega)), oK_of (sh23 (hs _ _ _ _ _)), rf23_5 (hs _ _ _ _ _), oNn_of, oK_of (sh23 (hs _ _ _ _ _)), oI_of, oK_of (sh23 (hs _ _ _ _ _)), oI_of, cS_2, ix, oA_k (sh28 (hs _ _ _ _ _)) (by omega) (by decide), clm (by omega), oU_of, cS_28]
set_option maxRecDepth 100000 in
/-- behind the body of a clause: is there an "if" -/
theorem c_38N (hT : TkO t) (hc : LXc t q c) (hk : k ≤ tM t) (h : ¬ tK t k = 268) : bX4_readClause_38 (cS c k p L cd wt) 19 1 = some (1, cS c k p L cd wt) := by
  have hs : hSh (cS c k p L cd wt) := hc.1
  unfold bX4_readClause_38
  rw [if_neg (by decide), oR_of (sh19 hs), c_skipN hT hc hk (by decide) h, oB_of, if_pos rfl, oZ1]
set_option maxRecDepth 100000 in
theorem c_38Y (hT : TkO t) (hc : LXc t q c) (hk : k ≤ tM t) (h : tK t k = 268) {n : Nat} (hn : n < 12) (h6 : mI c 23 6 = nI (n + 1)) (hL : L < 401) {r : Int32} {c' : Mm} (hr : r = 0 ∨ r = 1) (hx : fX4_readTest (cS (wI c 28 (upd (mI c 28) (4 * n + 3) (nI (L + 1)))) (k + 1) p (L + 1) (upd cd L 288) (upd wt L 0)) 19 0 0 = some (r, c')) : bX4_readClause_38 (cS c k p L cd wt) 19 1 = some (r, c') := by
  have hs : ∀ k p L cd wt, hSh (cS c k p L cd wt) := fun _ _ _ _ _ => hc.1
  have h2 : hSh (cS (wI c 28 (upd (mI c 28) (4 * n + 3) (nI (L + 1)))) (k + 1) p (L + 1) (upd cd L 288) (upd wt L 0)) := hc.1
  unfold bX4_readClause_38
  rw [if_neg (by decide), oR_of (sh19 (hs _ _ _ _ _)), c_skipY hT hc hk (by decide) h, oB_of, if_neg (by decide), oK_of (sh19 (hs _ _ _ _ _)), rf19_7 (hs _ _ _ _ _), oNn_of, oR_of (sh23 (hs _ _ _ _ _)), show (3 : Int32) = nI 3 from rfl, c_beginPlace hc.1 hn h6 (by decide) hL, oB_of, oR_of (sh19 h2), hx, oB_of]
  rcases hr with rfl | rfl
  · rw [oZ0]
  · rw [oZ1]
set_option maxRecDepth 100000 in
/-- a sum behind its word -/
theorem c_behind (hT : TkO t) (hc : LXc t q c) (hk : k ≤ tM t) {x : Int32} (hx : ¬ x = 286) (h : tK t k = x) {n : Nat} (hn : n < 12) (h6 : mI c 23 6 = nI (n + 1)) {j : Nat} (hj : j < 4) (hL : L < 401) {r : Int32} {c' : Mm} (hr : r = 0 ∨ r = 1) (hz : fX4_readSum (cS (wI c 28 (upd (mI c 28) (4 * n + j) (nI (L + 1)))) (k + 1) p (L + 1) (upd cd L 288) (upd wt L 0)) 19 0 0 = some (r, c')) : fX4_readSumBehind (cS c k p L cd wt) 19 x (nI j) = some (r, c') := by
  have hs : ∀ k p L cd wt, hSh (cS c k p L cd wt) := fun _ _ _ _ _ => hc.1
  have h2 : hSh (cS (wI c 28 (upd (mI c 28) (4 * n + j) (nI (L + 1)))) (k + 1) p (L + 1) (upd cd L 288) (upd wt L 0)) := hc.1
  unfold fX4_readSumBehind
  rw [oR_of (sh19 (hs _ _ _ _ _)), c_skipY hT hc hk hx h, oB_of, if_neg (by decide), oK_of (sh19 (hs _ _ _ _ _)), rf19_7 (hs _ _ _ _ _), oNn_of, oR_of (sh23 (hs _ _ _ _ _)), c_beginPlace hc.1 hn h6 hj hL, oB_of, oR_of (sh19 h2), hz, oB_of]
  rcases hr with rfl | rfl
  · rw [oZ0]
  · rw [oZ1]
set_option maxRecDepth 100000 in
theorem c_behindN (hT : TkO t) (hc : LXc t q c) (hk : k ≤ tM t) {x y : Int32} (hx : ¬ x = 286) (h : ¬ tK t k = x) : fX4_readSumBehind (cS c k p L cd wt) 19 x y = some (0, cS c k p L cd wt) := by
  have hs : hSh (cS c k p L cd wt) := hc.1
  unfold fX4_readSumBehind
  rw [oR_of (sh19 hs), c_skipN hT hc hk hx h, oB_of, if_pos rfl, oZ0]
end
/-- a segment of the class's code, ended by a stop or by the code's end -/
def SegC (cd wt : Nat → Int32) (L : Nat) (f : (Nat → Int32) → Int64) (a : Nat) : Prop := ∃ b p, p ≤ 51 ∧ b ≤ L ∧ (∀ W, CSeg cd wt W a b p (f W)) ∧ (b = L ∨ (b < L ∧ cd b = 288))
set_option maxRecDepth 100000 in
theorem SegC_up {cd wt cd' wt' : Nat → Int32} {L L' a : Nat} {f : (Nat → Int32) → Int64} (h : SegC cd wt L f a) (hL : L ≤ L') (e : ∀ j, j < L → cd' j = cd j ∧ wt' j = wt j) (he : L' = L ∨ cd' L = 288) : SegC cd' wt' L' f a := by
  obtain ⟨b, p, h1, h2, h3, h4⟩ := h
  refine ⟨b, p, h1, by omega, fun W => CSeg_eq (h3 W) (fun i i1 i2 => e i (by omega)), ?_⟩
  rcases h4 with z | ⟨z1, z2⟩
  · by_cases w : L' = L
    · exact Or.inl (by omega)
    · exact Or.inr ⟨by omega, by rw [z]; exact he.resolve_left w⟩
  · exact Or.inr ⟨by omega, by rw [(e b z1).1]; exact z2⟩
set_option maxRecDepth 100000 in
theorem SegR_up {q : Bool} {op ar op' ar' : Nat → Int32} {a b n : Nat} {f : (Nat → Int32) → Int64} (h : SegR q op ar f a b) (hb : b ≤ n) (e : ∀ j, j < n → op' j = op j ∧ ar' j = ar j) : SegR q op' ar' f a b := by
  obtain ⟨h1, h2, p, h3, h4⟩ := h
  exact ⟨h1, h2, p, h3, fun W => RSeg_eq (h4 W) (fun i i1 i2 => e i (by omega))⟩
