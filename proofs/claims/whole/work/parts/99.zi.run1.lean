/-! ===== the run: the words of an order ===== -/
def olF (g cells : Nat → Int32) (r : Nat) : Nat → Int32 := fun i => if 3 ≤ i ∧ i < 3 + r then cells (i - 3) else g i
def osF (g cells : Nat → Int32) (r : Nat) : Nat → Int32 := fun i => if 11 ≤ i ∧ i < 11 + r then cells (24 + (i - 11)) else if 13 ≤ i ∧ i < 13 + r then cells (26 + (i - 13)) else g i
set_option maxRecDepth 100000 in
theorem olF_u {g cells : Nat → Int32} {r : Nat} : upd (olF g cells r) (3 + r) (cells r) = olF g cells (r + 1) := by
  funext i
  unfold olF
  by_cases z : i = 3 + r
  · subst z; rw [pk_us, if_pos (by omega), show 3 + r - 3 = r by omega]
  · rw [pk_un z]
    by_cases y : 3 ≤ i ∧ i < 3 + r
    · rw [if_pos y, if_pos (by omega)]
    · rw [if_neg y, if_neg (by omega)]
set_option maxRecDepth 100000 in
theorem osF_u {g cells : Nat → Int32} {r : Nat} (hr : r < 2) : upd (upd (osF g cells r) (11 + r) (cells (24 + r))) (13 + r) (cells (26 + r)) = osF g cells (r + 1) := by
  funext i
  unfold osF
  by_cases z : i = 13 + r
  · subst z; rw [pk_us, if_neg (by omega), if_pos (by omega), show 13 + r - 13 = r by omega]
  · rw [pk_un z]
    by_cases w : i = 11 + r
    · subst w; rw [pk_us, if_pos (by omega), show 11 + r - 11 = r by omega]
    · rw [pk_un w]
      by_cases y : 11 ≤ i ∧ i < 11 + r
      · rw [if_pos y, if_pos (show 11 ≤ i ∧ i < 11 + (r + 1) by omega)]
      · rw [if_neg y, if_neg (show ¬ (11 ≤ i ∧ i < 11 + (r + 1)) by omega)]
        by_cases x : 13 ≤ i ∧ i < 13 + r
        · rw [if_pos x, if_pos (show 13 ≤ i ∧ i < 13 + (r + 1) by omega)]
        · rw [if_neg x, if_neg (show ¬ (13 ≤ i ∧ i < 13 + (r + 1)) by omega)]
set_option maxRecDepth 100000 in
theorem c_so58 {c : Mm} (hS : hSh c) {g : Nat → Int32} {N : Nat} : ∀ d r, r + d = 2 → rX5_setOrderWords_58 (N + d + 1) (wI c 16 (osF g (mI c 3) r)) 14 2 (nI r) = some ((), wI c 16 (osF g (mI c 3) 2)) := by
  have h1 : ∀ g, hSh (wI c 16 g) := fun _ => hS
  have f1 : ∀ g, Fr (wI c 16 g) 2 := fun g => Fr2 (h1 g)
  have e1 : ∀ g, mI (wI c 16 g) (2 + 1) = mI c 3 := fun g => rfl
  have e2 : ∀ g, mI (wI c 16 g) 16 = g := fun g => rfl
  intro d
  induction d with
  | zero =>
    intro r hr
    have e : r = 2 := by omega
    subst e
    show bX5_setOrderWords_58 _ _ 14 2 (nI 2) = _
    unfold bX5_setOrderWords_58
    rw [if_pos (by decide)]
  | succ d ih =>
    intro r hr
    have i1 : (11 : Int32) + nI r = nI (11 + r) := by rw [show (11 : Int32) = nI 11 from rfl, nI_add]
    have i2 : (13 : Int32) + nI r = nI (13 + r) := by rw [show (13 : Int32) = nI 13 from rfl, nI_add]
    show bX5_setOrderWords_58 (rX5_setOrderWords_58 (N + d + 1)) _ 14 2 (nI r) = _
    unfold bX5_setOrderWords_58
    rw [if_neg (show ¬ (2 : Int32) ≤ nI r from nI_ge (b := 2) (by omega) (by decide)), oK_of (sh14 (h1 _)), rf14_1 (h1 _), oNn_of, oR_of (f1 _).1, c_supplyOf (f1 _) (by omega), oB_of, i1, oA_k (sh16 (h1 _)) (by omega) (by decide), clm (by omega), oU_of, wI_s, e2, e1, oK_of (sh14 (h1 _)), rf14_1 (h1 _), oNn_of, oR_of (f1 _).1, c_temperOf (f1 _) (by omega), oB_of, i2, oA_k (sh16 (h1 _)) (by omega) (by decide), clm (by omega), oU_of, wI_s, e2, e1, nI_1, osF_u (by omega)]
    exact ih (r + 1) (by omega)
set_option maxRecDepth 100000 in
theorem c_so27 {c : Mm} (hS : hSh c) {g : Nat → Int32} {N : Nat} : ∀ d r, r + d = 8 → rX5_setOrderWords_27 (N + d + 1) (wI c 16 (olF g (mI c 3) r)) 14 2 (nI r) = some ((), wI c 16 (osF (olF g (mI c 3) 8) (mI c 3) 2)) := by
  have h1 : ∀ g, hSh (wI c 16 g) := fun _ => hS
  have f1 : ∀ g, Fr (wI c 16 g) 2 := fun g => Fr2 (h1 g)
  have e1 : ∀ g, mI (wI c 16 g) (2 + 1) = mI c 3 := fun g => rfl
  have e2 : ∀ g, mI (wI c 16 g) 16 = g := fun g => rfl
  intro d
  induction d with
  | zero =>
    intro r hr
    have e : r = 8 := by omega
    subst e
    have z0 : osF (olF g (mI c 3) 8) (mI c 3) 0 = olF g (mI c 3) 8 := by
      funext i; unfold osF; rw [if_neg (by omega), if_neg (by omega)]
    have l := c_so58 hS (g := olF g (mI c 3) 8) (N := 999997) 2 0 (by decide)
    rw [z0] at l
    show bX5_setOrderWords_27 _ _ 14 2 (nI 8) = _
    unfold bX5_setOrderWords_27
    rw [if_pos (by decide)]
    exact l
  | succ d ih =>
    intro r hr
    have i1 : (3 : Int32) + nI r = nI (3 + r) := by rw [show (3 : Int32) = nI 3 from rfl, nI_add]
    show bX5_setOrderWords_27 (rX5_setOrderWords_27 (N + d + 1)) _ 14 2 (nI r) = _
    unfold bX5_setOrderWords_27
    rw [if_neg (show ¬ (8 : Int32) ≤ nI r from nI_ge (b := 8) (by omega) (by decide)), oK_of (sh14 (h1 _)), rf14_1 (h1 _), oNn_of, oR_of (f1 _).1, c_lineAt (f1 _) (by omega), oB_of, i1, oA_k (sh16 (h1 _)) (by omega) (by decide), clm (by omega), oU_of, wI_s, e2, e1, nI_1, olF_u]
    exact ih (r + 1) (by omega)
set_option maxRecDepth 100000 in
theorem c_setOrd {c : Mm} (hS : hSh c) {x y : Int32} : ∃ W, fX5_setOrderWords c 14 2 x y = some ((), wI c 16 W) ∧ W 0 = mI c 3 28 ∧ W 1 = x ∧ W 2 = y ∧ (∀ j, j < 8 → W (3 + j) = mI c 3 j) ∧ (∀ s, s < 2 → W (11 + s) = mI c 3 (24 + s)) ∧ ∀ s, s < 2 → W (13 + s) = mI c 3 (26 + s) := by
  have h1 : ∀ g, hSh (wI c 16 g) := fun _ => hS
  have e2 : ∀ g, mI (wI c 16 g) 16 = g := fun g => rfl
  have l := c_so27 hS (g := upd (upd (upd (mI c 16) 0 (mI c 3 28)) 1 x) 2 y) (N := 999991) 8 0 (by decide)
  have z0 : olF (upd (upd (upd (mI c 16) 0 (mI c 3 28)) 1 x) 2 y) (mI c 3) 0 = upd (upd (upd (mI c 16) 0 (mI c 3 28)) 1 x) 2 y := by
    funext i; unfold olF; rw [if_neg (by omega)]
  rw [z0] at l
  refine ⟨osF (olF (upd (upd (upd (mI c 16) 0 (mI c 3 28)) 1 x) 2 y) (mI c 3) 8) (mI c 3) 2, ?_, ?_, ?_, ?_, fun j hj => ?_, fun s hs => ?_, fun s hs => ?_⟩
  rotate_left
  · unfold osF olF
    rw [if_neg (by omega), if_neg (by omega), if_neg (by omega), pk_un (by omega), pk_un (by omega), pk_us]
  · unfold osF olF
    rw [if_neg (by omega), if_neg (by omega), if_neg (by omega), pk_un (by omega), pk_us]
  · unfold osF olF
    rw [if_neg (by omega), if_neg (by omega), if_neg (by omega), pk_us]
  · unfold osF olF
    rw [if_neg (by omega), if_neg (by omega), if_pos (by omega), show 3 + j - 3 = j by omega]
  · unfold osF olF
    rw [if_pos (by omega), show 11 + s - 11 = s by omega]
  · unfold osF olF
    rw [if_neg (by omega), if_pos (by omega), show 13 + s - 13 = s by omega]
  · unfold fX5_setOrderWords
    rw [oK_of (sh14 hS), rf14_1 hS, oNn_of, oR_of (Fr2 hS).1, c_day (Fr2 hS), oB_of, oA_of (sh16 hS) (by decide) (by decide), oU_of]
    rw [oK_of (sh14 (h1 _)), rf14_1 (h1 _), oNn_of, oA_of (sh16 (h1 _)) (by decide) (by decide), oU_of, wI_s, e2]
    rw [oK_of (sh14 (h1 _)), rf14_1 (h1 _), oNn_of, oA_of (sh16 (h1 _)) (by decide) (by decide), oU_of, wI_s, e2]
    exact l
set_option maxRecDepth 100000 in
theorem valN {u : Mm} {t : Nat} : fX5_valueOf u 14 t (-1) = some (0, u) := by
  unfold fX5_valueOf
  rw [if_neg (by decide)]
/-! a sum of an order, by the reference -/
def SF (m m' : Mm) : Prop := mQ m' = mQ m ∧ mK m' = mK m ∧ mR m' = mR m ∧ (∀ a, a ≠ 45 → mI m' a = mI m a) ∧ (∀ k, k ≠ 38 → k ≠ 50 → mI m' 45 k = mI m 45 k) ∧ ∀ a, a ≠ 45 → a ≠ 65 → mL m' a = mL m a
set_option maxRecDepth 100000 in
theorem SF_rfl {m : Mm} : SF m m := ⟨rfl, rfl, rfl, fun _ _ => rfl, fun _ _ _ => rfl, fun _ _ _ => rfl⟩
set_option maxRecDepth 100000 in
theorem SF_trans {m n o : Mm} (h : SF m n) (k : SF n o) : SF m o := ⟨k.1.trans h.1, k.2.1.trans h.2.1, k.2.2.1.trans h.2.2.1, fun a h1 => (k.2.2.2.1 a h1).trans (h.2.2.2.1 a h1), fun a h1 h2 => (k.2.2.2.2.1 a h1 h2).trans (h.2.2.2.2.1 a h1 h2), fun a h1 h2 => (k.2.2.2.2.2 a h1 h2).trans (h.2.2.2.2.2 a h1 h2)⟩
set_option maxRecDepth 100000 in
theorem SF_sh {m m' : Mm} (k : SF m m') (h : hSh m) : hSh m' := hSh_q h k.1 k.2.1 k.2.2.1
/-- the words the reference sees -/
def WM (m : Mm) (W : Nat → Int32) : Prop := (∀ j, j < 3 → mL m 64 (j + 1) = (W j).toInt64) ∧ (∀ c, c < 8 → mI m 47 (7 + c) = W (3 + c)) ∧ (∀ s, s < 2 → mI m 47 (31 + s) = W (11 + s)) ∧ ∀ s, s < 2 → mI m 47 (33 + s) = W (13 + s)
set_option maxRecDepth 100000 in
theorem WM_SF {m m' : Mm} {W : Nat → Int32} (k : SF m m') (h : WM m W) : WM m' W := by
  unfold WM at h ⊢
  rw [k.2.2.2.2.2 64 (by decide) (by decide), k.2.2.2.1 47 (by decide)]; exact h
set_option maxRecDepth 100000 in
theorem r_sumOff {m : Mm} (hS : hSh m) (h : ¬ mI m 45 50 = 0) {x : Int32} : fX9_sumOf m 45 x = some (-1, m) := by
  unfold fX9_sumOf
  rw [oK_of (sh45 hS), oI_of, if_neg h]
set_option maxRecDepth 100000 in
theorem r_sumNo {m : Mm} (hS : hSh m) (h : mI m 45 50 = 0) {x : Nat} (hx : x + 1 < 120) (e : mI m 69 x = mI m 69 (x + 1)) : fX9_sumOf m 45 (nI x) = some (-1, m) := by
  unfold fX9_sumOf
  rw [oK_of (sh45 hS), oI_of, if_pos h, oK_of (sh45 hS), rf45_46 hS, oNn_of, oA_k (sh69 hS) (by omega) (by decide), oI_of, clm (by omega), oK_of (sh45 hS), oNn_of, nI_1, oA_k (sh69 hS) (by omega) (by decide), oI_of, clm (by omega), if_pos e]
set_option maxRecDepth 100000 in
theorem r_sumOf {m : Mm} (hS : hSh m) (h50 : mI m 45 50 = 0) (h20 : mI m 45 20 = 0) {x a b : Nat} (hx : x + 1 < 120) (ha : mI m 69 x = nI a) (hb : mI m 69 (x + 1) = nI b) {f : (Nat → Int32) → Int64} (hR : SegR true (mI m 56) (mI m 57) f a b) {W : Nat → Int32} (hW : WM m W) : ∃ r m', fX9_sumOf m 45 (nI x) = some (r, m') ∧ SF m m' ∧ ((f W ≠ BR ∧ r = (f W).toInt32 ∧ mI m' 45 50 = 0) ∨ (f W = BR ∧ mI m' 45 50 = 1)) := by
  obtain ⟨r1, r2, p, r3, r4⟩ := hR
  have h6 : hSh (wI m 45 (upd (mI m 45) 20 1)) := hS
  have hX : hSh (wI (wI m 45 (upd (mI m 45) 20 1)) 45 (upd (mI (wI m 45 (upd (mI m 45) 20 1)) 45) 38 0)) := hS
  have nab : ¬ nI a = nI b := fun e => absurd ((nI_eq (by omega) (by omega)).mp e) (by omega)
  have s6 : ∀ j, mI (wI m 45 (upd (mI m 45) 20 1)) 69 j = mI m 69 j := fun _ => rfl
  have base : ∀ {r : Int32} {m' : Mm}, oB (fX9_reckonAll (wI m 45 (upd (mI m 45) 20 1)) 45 (nI a) (nI b)) (fun _ u11 => oK u11 45 9 54 (oZ 0 (oU (wI u11 45 (upd (mI u11 45) 20 0)) (fun u12 => oK u12 45 9 54 (oI (mI u12 45 38) (fun v13 => oK u12 45 9 54 (oZ v13 (oU (wI u12 45 (upd (mI u12 45) 50 v13)) (fun u14 => oK u14 45 9 54 (oJ (mL u14 45 39) (fun w15 => some (Int64.toInt32 w15, u14)))))))))))) = some (r, m') → fX9_sumOf m 45 (nI x) = some (r, m') := by
    intro r m' e
    unfold fX9_sumOf
    rw [oK_of (sh45 hS), oI_of, if_pos h50, oK_of (sh45 hS), rf45_46 hS, oNn_of, oA_k (sh69 hS) (by omega) (by decide), oI_of, clm (by omega), oK_of (sh45 hS), oNn_of, nI_1, oA_k (sh69 hS) (by omega) (by decide), oI_of, clm (by omega), ha, hb, if_neg nab, oK_of (sh45 hS), oZ1, oU_of, oK_of (sh45 h6), rf45_46 h6, oNn_of, oA_k (sh69 h6) (by omega) (by decide), oI_of, oK_of (sh45 h6), oNn_of, oA_k (sh69 h6) (by omega) (by decide), oI_of, s6, s6, ha, hb, oR_of (sh45 h6)]
    exact e
  have vs := RSeg_value (r4 W) r3 r2 h6 (FE_order hX (show mI (wI (wI m 45 (upd (mI m 45) 20 1)) 45 (upd (mI (wI m 45 (upd (mI m 45) 20 1)) 45) 38 0)) 45 20 = 1 from rfl) rfl (Nat.le_refl b) r2) (LE_order hX rfl hW.1 hW.2.1 hW.2.2.1 hW.2.2.2)
  by_cases z : f W = BR
  · obtain ⟨S, y, e⟩ := vs.2 z
    have hb1 : hSh (wL (bkn (wI m 45 (upd (mI m 45) 20 1)) S) 45 (vp_updL (mL (wI m 45 (upd (mI m 45) 20 1)) 45) 39 y)) := hS
    have hb2 : ∀ g, hSh (wI (wL (bkn (wI m 45 (upd (mI m 45) 20 1)) S) 45 (vp_updL (mL (wI m 45 (upd (mI m 45) 20 1)) 45) 39 y)) 45 g) := fun _ => hS
    have hb3 : ∀ g g', hSh (wI (wI (wL (bkn (wI m 45 (upd (mI m 45) 20 1)) S) 45 (vp_updL (mL (wI m 45 (upd (mI m 45) 20 1)) 45) 39 y)) 45 g) 45 g') := fun _ _ => hS
    have e38 : mI (wI (wL (bkn (wI m 45 (upd (mI m 45) 20 1)) S) 45 (vp_updL (mL (wI m 45 (upd (mI m 45) 20 1)) 45) 39 y)) 45 (upd (mI (wL (bkn (wI m 45 (upd (mI m 45) 20 1)) S) 45 (vp_updL (mL (wI m 45 (upd (mI m 45) 20 1)) 45) 39 y)) 45) 20 0)) 45 38 = 1 := rfl
    have q := base (r := y.toInt32) (m' := wI (wI (wL (bkn (wI m 45 (upd (mI m 45) 20 1)) S) 45 (vp_updL (mL (wI m 45 (upd (mI m 45) 20 1)) 45) 39 y)) 45 (upd (mI (wL (bkn (wI m 45 (upd (mI m 45) 20 1)) S) 45 (vp_updL (mL (wI m 45 (upd (mI m 45) 20 1)) 45) 39 y)) 45) 20 0)) 45 (upd (upd (mI (wL (bkn (wI m 45 (upd (mI m 45) 20 1)) S) 45 (vp_updL (mL (wI m 45 (upd (mI m 45) 20 1)) 45) 39 y)) 45) 20 0) 50 1)) (by
      rw [e, oB_of, oK_of (sh45 hb1), oZ0, oU_of, oK_of (sh45 (hb2 _)), oI_of, e38, oK_of (sh45 (hb2 _)), oZ1, oU_of, oK_of (sh45 (hb3 _ _)), oJ_of]
      rfl)
    refine ⟨_, _, q, ⟨rfl, rfl, rfl, fun a ha => ?_, fun k h1 h2 => ?_, fun a h1 h2 => ?_⟩, Or.inr ⟨z, rfl⟩⟩
    · show (if a = 45 then _ else if a = 45 then _ else if a = 45 then _ else if a = 45 then _ else mI m a) = _
      rw [if_neg ha, if_neg ha, if_neg ha, if_neg ha]
    · show upd (upd (upd (upd (mI m 45) 20 1) 38 1) 20 0) 50 1 k = _
      rw [pk_un h2]
      by_cases w : k = 20
      · subst w; rw [pk_us, h20]
      · rw [pk_un w, pk_un h1, pk_un w]
    · show (if a = 45 then _ else if a = 65 then _ else mL m a) = _
      rw [if_neg h1, if_neg h2]
  · obtain ⟨S, e⟩ := vs.1 z
    obtain ⟨Z, hZ⟩ : ∃ Z, Z = wL (wL (wI (wI m 45 (upd (mI m 45) 20 1)) 45 (upd (mI (wI m 45 (upd (mI m 45) 20 1)) 45) 38 0)) 65 S) 45 (vp_updL (mL (wI m 45 (upd (mI m 45) 20 1)) 45) 39 (f W)) := ⟨_, rfl⟩
    rw [← hZ] at e
    have hb1 : hSh Z := by rw [hZ]; exact hS
    have hb2 : ∀ g, hSh (wI Z 45 g) := fun _ => hb1
    have hb3 : ∀ g g', hSh (wI (wI Z 45 g) 45 g') := fun _ _ => hb1
    have Z45 : mI Z 45 = upd (upd (mI m 45) 20 1) 38 0 := by rw [hZ]; rfl
    have e38 : mI (wI Z 45 (upd (mI Z 45) 20 0)) 45 38 = 0 := by rw [Z45]; rfl
    have e39 : ∀ g g', mL (wI (wI Z 45 g) 45 g') 45 39 = f W := by
      intro g g'
      show mL Z 45 39 = _
      rw [hZ]
      exact pk_uLs (f := mL m 45) (k := 39) (x := f W)
    have q := base (r := (f W).toInt32) (m' := wI (wI Z 45 (upd (mI Z 45) 20 0)) 45 (upd (mI (wI Z 45 (upd (mI Z 45) 20 0)) 45) 50 0)) (by
      rw [e, oB_of, oK_of (sh45 hb1), oZ0, oU_of, oK_of (sh45 (hb2 _)), oI_of, e38, oK_of (sh45 (hb2 _)), oZ0, oU_of, oK_of (sh45 (hb3 _ _)), oJ_of, e39])
    refine ⟨_, _, q, ⟨by show mQ Z = _; rw [hZ]; rfl, by show mK Z = _; rw [hZ]; rfl, by show mR Z = _; rw [hZ]; rfl, fun a ha => ?_, fun k h1 h2 => ?_, fun a h1 h2 => ?_⟩, Or.inl ⟨z, rfl, rfl⟩⟩
    · rw [mI_wI, if_neg ha, mI_wI, if_neg ha, hZ]
      show (if a = 45 then _ else if a = 45 then _ else mI m a) = _
      rw [if_neg ha, if_neg ha]
    · show upd (upd (mI Z 45) 20 0) 50 0 k = _
      rw [pk_un h2, Z45]
      by_cases w : k = 20
      · subst w; rw [pk_us, h20]
      · rw [pk_un w, pk_un h1, pk_un w]
    · show mL Z a = _
      rw [hZ]
      show (if a = 45 then _ else if a = 65 then _ else mL m a) = _
      rw [if_neg h1, if_neg h2]
