/-! ===== the one's code: segments ===== -/
set_option maxRecDepth 100000 in
theorem c_push {u : Mm} (hS : hSh u) {t i d : Nat} {K : Mm → Nat → Nat → Int32 → Int32 → Option (Int64 × Mm)} {o w : Int32} (hd : d < 51) : bX5_valueOf_67 K u 14 t (tpI d) (nI i) o w = K (wL u 15 (vp_updL (mL u 15) d (if o = 287 ∧ 0 ≤ w ∧ w ≤ 14 then (mI u 16 w.toNatClampNeg).toInt64 else w.toInt64))) 14 t (tpI (d + 1)) (nI (i + 1)) := by
  unfold bX5_valueOf_67 bX5_valueOf_104 bX5_valueOf_105 bX5_valueOf_131 bX5_valueOf_210
  have e : ¬ Int32.ofNat (mK u 15).2 ≤ nI d := by rw [sh15 hS]; exact nI_ge (b := 51) hd (by decide)
  rw [oK_of (sh14 hS), rf14_0 hS, oNn_of, oL_of11 (sh15 hS), tpI_1, if_neg e, nI_1, tpI_s]
  by_cases c : o = 287
  · rw [if_pos c, c_within, oB_of]
    by_cases c2 : 0 ≤ w ∧ w ≤ 14
    · obtain ⟨j, hj, rfl⟩ := nIof (n := 14) 14 (by decide) c2
      rw [if_pos c2, if_neg (by decide), oK_of (sh14 hS), rf14_0 hS, oNn_of, if_neg (by decide), oK_of (sh14 hS), rf14_1 hS, oNn_of, oA_k (sh16 hS) (by omega) (by decide), oI_of, oA_k (sh15 hS) hd (by decide), oU_of, clm (by omega), clm (by omega), if_pos ⟨c, c2⟩]
    · rw [if_neg c2, if_pos rfl, oK_of (sh14 hS), rf14_0 hS, oNn_of, if_pos rfl, oA_k (sh15 hS) hd (by decide), oU_of, clm (by omega), if_neg (fun q => c2 q.2)]
  · rw [if_neg c, oK_of (sh14 hS), oNn_of, if_pos rfl, oA_k (sh15 hS) hd (by decide), oU_of, clm (by omega), if_neg (fun q => c q.1)]
set_option maxRecDepth 100000 in
theorem x0L (x : Int32) : (271 : Int32) = 285 ↔ False := by decide
def leafV (W : Nat → Int32) (o w : Int32) : Int64 := if o = 287 ∧ 0 ≤ w ∧ w ≤ 14 then (W w.toNatClampNeg).toInt64 else w.toInt64
set_option maxRecDepth 100000 in
/-- a leaf -/
theorem c_leaf {u : Mm} (hS : hSh u) {t lo hi0 i N d : Nat} {cd wt : Nat → Int32} (h : TX u t cd wt lo hi0) (lo1 : lo ≤ i) (hi : i < hi0) (ho : cd i = 285 ∨ cd i = 287) (hd : d < 51) : rX5_valueOf_11 (N + 1) u 14 t (tpI d) (nI i) = rX5_valueOf_11 N (wL u 15 (vp_updL (mL u 15) d (leafV (mI u 16) (cd i) (wt i)))) 14 t (tpI (d + 1)) (nI (i + 1)) := by
  rw [c_fetch h lo1 hi (by rcases ho with q | q <;> rw [q] <;> decide)]
  rcases ho with q | q
  · rw [if_pos q, c_push hS hd]; rfl
  · rw [if_neg (by rw [q]; decide), if_pos q, c_push hS hd]; rfl
set_option maxRecDepth 100000 in
theorem hBR (x : Int64) : lg_cmp x 4000000000 = 0 ↔ x = BR := lg_eq x _
set_option maxRecDepth 100000 in
theorem c_not {u : Mm} (hS : hSh u) {t lo hi0 i N d : Nat} {cd wt : Nat → Int32} (h : TX u t cd wt lo hi0) (lo1 : lo ≤ i) (hi : i < hi0) (ho : cd i = 271) (hd : d < 51) : rX5_valueOf_11 (N + 1) u 14 t (tpI (d + 1)) (nI i) = rX5_valueOf_11 N (wL u 15 (vp_updL (mL u 15) d (nt (mL u 15 d)))) 14 t (tpI (d + 1)) (nI (i + 1)) := by
  rw [c_fetch h lo1 hi (by rw [ho]; decide), if_neg (by rw [ho]; decide), if_neg (by rw [ho]; decide), if_pos ho, tpI_s, if_neg (nI_pos (by omega)), oK_of (sh14 hS), rf14_0 hS, oNn_of, oA_k (sh15 hS) hd (by decide), oJ_of, clm (by omega)]
  unfold bX5_valueOf_210 nt
  by_cases c : mL u 15 d = BR
  · rw [if_pos ((hBR _).mpr c), if_pos c, nI_1, show vp_updL (mL u 15) d BR = mL u 15 from ?_, wL_id]
    funext j
    by_cases e : j = d
    · subst e; rw [pk_uLs, c]
    · rw [pk_uLn e]
  · rw [if_neg (fun q => c ((hBR _).mp q)), if_neg c, oK_of (sh14 hS), oNn_of, oK_of (sh14 hS), oNn_of, oA_k (sh15 hS) hd (by decide), oJ_of, oA_k (sh15 hS) hd (by decide), oU_of, nI_1]
set_option maxRecDepth 100000 in
theorem m1 (d : Nat) : nI (d + 1) + (-1) = nI d := by
  have := nI_pred d
  rw [Int32.sub_eq_add_neg] at this
  exact this
set_option maxRecDepth 100000 in
/-- two are joined -/
theorem c_join {u : Mm} (hS : hSh u) {t lo hi0 i N d : Nat} {cd wt : Nat → Int32} (h : TX u t cd wt lo hi0) (lo1 : lo ≤ i) (hi : i < hi0) {v : Int64} (ho : isJ (cd i) ∨ cd i = 269 ∨ cd i = 270) (hv : fX5_joined u (cd i) (mL u 15 d) (mL u 15 (d + 1)) = some (v, u)) (hd : d + 1 < 51) : rX5_valueOf_11 (N + 1) u 14 t (tpI (d + 2)) (nI i) = rX5_valueOf_11 N (wL u 15 (vp_updL (mL u 15) d v)) 14 t (tpI (d + 1)) (nI (i + 1)) := by
  have n1 : cd i ≠ 288 ∧ cd i ≠ 285 ∧ cd i ≠ 287 ∧ cd i ≠ 271 := by
    rcases ho with (q | q | q | q | q | q | q | q) | q | q <;> rw [q] <;> decide
  have hx : ¬ nI (d + 1) < 1 := nI_nlt (b := 1) (by omega) (by omega)
  rw [c_fetch h lo1 hi n1.1, if_neg n1.2.1, if_neg n1.2.2.1, if_neg n1.2.2.2, show tpI (d + 2) = nI (d + 1) from tpI_s (d + 1), if_neg hx, m1, nI_1, oK_of (sh14 hS), rf14_0 hS, oNn_of, oK_of (sh14 hS), oNn_of, oA_k (sh15 hS) (by omega) (by decide), oJ_of, clm (by omega), oK_of (sh14 hS), oNn_of, oA_k (sh15 hS) (by omega) (by decide), oJ_of, clm (by omega), hv, oB_of, oA_k (sh15 hS) (by omega) (by decide), oU_of, tpI_s]
  unfold bX5_valueOf_210
  rw [nI_1]
/-- from a to b, with p places of the stack, comes v -/
def CSeg (cd wt W : Nat → Int32) (a b p : Nat) (v : Int64) : Prop := a < b ∧ 1 ≤ p ∧ ∀ (u : Mm) (t N d : Nat), hSh u → TX u t cd wt a b → (∀ j, j < 15 → mI u 16 j = W j) → d + p ≤ 51 → ∃ S, rX5_valueOf_11 (N + (b - a)) u 14 t (tpI d) (nI a) = rX5_valueOf_11 N (wL u 15 S) 14 t (tpI (d + 1)) (nI b) ∧ S d = v ∧ ∀ j, j < d → S j = mL u 15 j
section
variable {cd wt W : Nat → Int32} {a b c p q : Nat} {v w : Int64}
set_option maxRecDepth 100000 in
theorem CSeg_eq {cd' wt' : Nat → Int32} (h : CSeg cd wt W a b p v) (e : ∀ i, a ≤ i → i < b → cd' i = cd i ∧ wt' i = wt i) : CSeg cd' wt' W a b p v := by
  obtain ⟨h1, h2, h3⟩ := h
  exact ⟨h1, h2, fun u t N d hS hX hW hd => h3 u t N d hS (TX_eq hX e) hW hd⟩
set_option maxRecDepth 100000 in
theorem CSeg_leaf (ho : cd a = 285 ∨ cd a = 287) (hv : v = leafV W (cd a) (wt a)) : CSeg cd wt W a (a + 1) 1 v := by
  refine ⟨by omega, by omega, fun u t N d hS hX hW hd => ⟨vp_updL (mL u 15) d v, ?_, pk_uLs, fun j hj => pk_uLn (by omega)⟩⟩
  rw [show a + 1 - a = 1 by omega, c_leaf hS hX (Nat.le_refl a) (by omega) ho (by omega), hv]
  congr 3
  unfold leafV
  by_cases z : cd a = 287 ∧ 0 ≤ wt a ∧ wt a ≤ 14
  · obtain ⟨j, hj, ej⟩ := nIof (n := 14) 14 (by decide) z.2
    rw [if_pos z, if_pos z, ej, clm (by omega), hW j (by omega)]
  · rw [if_neg z, if_neg z]
set_option maxRecDepth 100000 in
theorem CSeg_not (h : CSeg cd wt W a b p v) (ho : cd b = 271) : CSeg cd wt W a (b + 1) p (nt v) := by
  obtain ⟨h1, h3, h4⟩ := h
  refine ⟨by omega, h3, fun u t N d hS hX hW hd => ?_⟩
  obtain ⟨S, e1, e2, e3⟩ := h4 u t (N + 1) d hS (TX_sub hX (Nat.le_refl a) (by omega)) hW hd
  refine ⟨vp_updL S d (nt v), ?_, pk_uLs, fun j hj => by rw [pk_uLn (by omega)]; exact e3 j hj⟩
  rw [show N + (b + 1 - a) = N + 1 + (b - a) by omega, e1, c_not (u := wL u 15 S) hS hX (by omega) (Nat.lt_succ_self b) ho (by omega), wL_s]
  show rX5_valueOf_11 N (wL u 15 (vp_updL S d (nt (S d)))) 14 t _ _ = _
  rw [e2]
set_option maxRecDepth 100000 in
theorem CSeg_bin {x : Int64} (h : CSeg cd wt W a b p v) (k : CSeg cd wt W b c q w) (ho : isJ (cd c) ∨ cd c = 269 ∨ cd c = 270) (hj : ∀ u, fX5_joined u (cd c) v w = some (x, u)) : CSeg cd wt W a (c + 1) (p + q) x := by
  obtain ⟨h1, h3, h4⟩ := h
  obtain ⟨k1, k3, k4⟩ := k
  refine ⟨by omega, by omega, fun u t N d hS hX hW hd => ?_⟩
  obtain ⟨S, e1, e2, e3⟩ := h4 u t (N + 1 + (c - b)) d hS (TX_sub hX (Nat.le_refl a) (by omega)) hW (by omega)
  obtain ⟨S2, f1, f2, f3⟩ := k4 (wL u 15 S) t (N + 1) (d + 1) hS (TX_sub hX (by omega) (by omega)) hW (by omega)
  refine ⟨vp_updL S2 d x, ?_, pk_uLs, fun j hj => by rw [pk_uLn (by omega), f3 j (by omega)]; exact e3 j hj⟩
  rw [show N + (c + 1 - a) = N + 1 + (c - b) + (b - a) by omega, e1, f1, wL_s, c_join (u := wL u 15 S2) hS hX (by omega) (Nat.lt_succ_self c) ho (v := x) ?_ (by omega), wL_s]
  · rfl
  · show fX5_joined (wL u 15 S2) (cd c) (S2 d) (S2 (d + 1)) = _
    rw [f2, f3 d (by omega)]
    show fX5_joined (wL u 15 S2) (cd c) (S d) w = _
    rw [e2]
    exact hj _
end
set_option maxRecDepth 100000 in
/-- the whole value -/
theorem CSeg_value {cd wt W : Nat → Int32} {a b p : Nat} {v : Int64} (h : CSeg cd wt W a b p v) (hp : p ≤ 51) {u : Mm} {t : Nat} (hS : hSh u) (hX : TX u t cd wt a b) (hs : mI u t 2 = nI b ∨ ∃ w, TX u t (fun _ => 288) w b (b + 1)) (hW : ∀ j, j < 15 → mI u 16 j = W j) : ∃ S, fX5_valueOf u 14 t (nI a) = some (v, wL u 15 S) := by
  obtain ⟨h1, h3, h4⟩ := h
  have hX0 := hX
  obtain ⟨x1, L, aa, bb, na, nb, x2, xL, x3, x4, x5, x6, x7, x8, x9, x10, x11⟩ := hX
  obtain ⟨S, e1, e2, e3⟩ := h4 u t (999999 - (b - a) + 1) 0 hS hX0 hW (by omega)
  refine ⟨S, ?_⟩
  unfold fX5_valueOf
  rw [if_pos (nI_pos' (by omega)), show hwF = 999999 - (b - a) + 1 + (b - a) by unfold hwF; omega, show (-1 : Int32) = tpI 0 from rfl, e1]
  show bX5_valueOf_11 _ (wL u 15 S) 14 t (tpI 1) (nI b) = _
  have fin : bX5_valueOf_216 (wL u 15 S) 14 (tpI 1) = some (v, wL u 15 S) := by
    have hS1 : hSh (wL u 15 S) := hS
    unfold bX5_valueOf_216 bX5_valueOf_232
    rw [if_pos (show tpI 1 = 0 from rfl), oK_of (sh14 hS1), rf14_0 hS1, oNn_of, show (0 : Int32) = nI 0 from rfl, oA_k (sh15 hS1) (by decide) (by decide), oJ_of]
    show some (S 0, _) = _
    rw [e2]
  have y1 : mK (wL u 15 S) t = (6, 7) := x1
  have y2 : mI (wL u 15 S) t 2 = nI L := x2
  have y3 : mR (wL u 15 S) t 0 = some aa := x3
  have y5 : mK (wL u 15 S) aa = (10, na) := x5
  unfold bX5_valueOf_11
  rw [oK_of y1, oI_of, y2]
  have stop : (∃ w, TX u t (fun _ => 288) w b (b + 1)) → b < L ∧ mI u aa b = 288 := by
    intro ⟨w, z1, L', a', b', na', nb', z2, z3, z4, z5, z6, z7, z8, z9, z10, z11, z12⟩
    have eL : nI L = nI L' := x2.symm.trans z2
    have eL' : L = L' := by
      have q1 := clm (show L < 2147483648 by omega)
      have q2 := clm (show L' < 2147483648 by omega)
      rw [eL] at q1; exact q1.symm.trans q2
    have ea : aa = a' := Option.some.inj (x3.symm.trans z4)
    subst eL' ea
    exact ⟨by omega, (z12 b (Nat.le_refl b) (Nat.lt_succ_self b)).1⟩
  rcases hs with q | q
  · rw [← x2, q, if_pos (Int32.le_refl _), fin]
  · obtain ⟨q1, q2⟩ := stop q
    rw [if_neg (nI_ge (by omega) (by omega)), oK_of y1, y3, oNn_of, oA_k y5 (by omega) (by omega), oI_of, clm (by omega), show mI (wL u 15 S) aa b = 288 from q2, if_pos rfl, fin]
