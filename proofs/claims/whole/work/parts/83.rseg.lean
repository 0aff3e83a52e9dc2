/-! ===== the other's code: composed ===== -/
def RSeg (op ar : Nat → Int32) (lv : Int32 → Int32 → Prop) (L : Int32 → Int32 → Int64) (a b p : Nat) (v : Int64) : Prop := a < b ∧ 1 ≤ p ∧ ∀ (m : Mm) (N d last : Nat), hSh m → mI m 45 38 = 0 → FE m op ar a b last → LE m lv L → b ≤ last → last ≤ 400 → d + p ≤ 400 →
  (v ≠ BR → ∃ r S, rX9_reckonAll_10 (N + 1 + (b - a)) m 45 (nI last) (nI d) (nI a) = rX9_reckonAll_10 (N + 1 + r) (wL m 65 S) 45 (nI last) (nI (d + 1)) (nI b) ∧ S d = v ∧ ∀ j, j < d → S j = mL m 65 j) ∧
  (v = BR → ∃ S y, rX9_reckonAll_10 (N + 1 + (b - a)) m 45 (nI last) (nI d) (nI a) = some ((), wL (bkn m S) 45 (vp_updL (mL m 45) 39 y)))
set_option maxRecDepth 100000 in
/-- one step -/
theorem r_step {m : Mm} {op ar : Nat → Int32} {lo hi last k N : Nat} {d : Int32} (h : FE m op ar lo hi last) (hl : lo ≤ k) (hk : k < hi) : rX9_reckonAll_10 (N + 1) m 45 (nI last) d (nI k) = bX9_reckonAll_95 (rX9_reckonAll_10 N) m 45 (nI last) d (nI k) (op k) (ar k) := by
  have e := h (mL m 65) (rX9_reckonAll_10 N) d k hl hk
  rw [wL_id] at e
  exact e
set_option maxRecDepth 100000 in
theorem r_exit {m : Mm} (hS : hSh m) {last k d N : Nat} {S : Nat → Int64} (hd : d < 400) : ∃ y, rX9_reckonAll_10 (N + 1) (bkn m S) 45 (nI last) (nI d) (nI k) = some ((), wL (bkn m S) 45 (vp_updL (mL m 45) 39 y)) := by
  have h1 : hSh (bkn m S) := hS
  have e38 : mI (bkn m S) 45 38 = 1 := rfl
  have fin : ∃ y, bX9_reckonAll_356 (bkn m S) 45 (nI d) = some ((), wL (bkn m S) 45 (vp_updL (mL m 45) 39 y)) := by
    unfold bX9_reckonAll_356 bX9_reckonAll_371
    by_cases c : nI d ≤ 0
    · rw [if_pos c, oK_of (sh45 h1), oU_of]; exact ⟨_, rfl⟩
    · rw [if_neg c, oK_of (sh45 h1), rf45_37 h1, oNn_of, show (0 : Int32) = nI 0 from rfl, oA_k (sh65 h1) (by decide) (by decide), oJ_of, oK_of (sh45 h1), oU_of]; exact ⟨_, rfl⟩
  show ∃ y, bX9_reckonAll_10 (rX9_reckonAll_10 N) (bkn m S) 45 (nI last) (nI d) (nI k) = _
  unfold bX9_reckonAll_10
  by_cases c : nI last ≤ nI k
  · rw [if_pos c]; exact fin
  · rw [if_neg c, oK_of (sh45 h1), oI_of, e38, if_neg (by decide)]; exact fin
set_option maxRecDepth 100000 in
theorem bkn_w (m : Mm) (S T : Nat → Int64) : bkn (wL m 65 S) T = bkn m T := by
  unfold bkn
  rw [wL_s]
  rfl
section
variable {op ar : Nat → Int32} {lv : Int32 → Int32 → Prop} {L : Int32 → Int32 → Int64} {a b c p q : Nat} {v w : Int64}
set_option maxRecDepth 100000 in
theorem RSeg_eq {op' ar' : Nat → Int32} (h : RSeg op ar lv L a b p v) (e : ∀ i, a ≤ i → i < b → op' i = op i ∧ ar' i = ar i) : RSeg op' ar' lv L a b p v := by
  obtain ⟨h1, h2, h3⟩ := h
  exact ⟨h1, h2, fun m N d last hS h38 hF hL hb hl hd => h3 m N d last hS h38 (FE_eq hF e) hL hb hl hd⟩
set_option maxRecDepth 100000 in
theorem RSeg_leaf (h : lv (op a) (ar a)) (hv : v = L (op a) (ar a)) (hn : v ≠ BR) : RSeg op ar lv L a (a + 1) 1 v := by
  refine ⟨by omega, by omega, fun m N d last hS h38 hF hL hb hl hd => ⟨fun _ => ⟨0, vp_updL (mL m 65) d v, ?_, pk_uLs, fun j hj => pk_uLn (by omega)⟩, fun z => absurd z hn⟩⟩
  rw [show N + 1 + (a + 1 - a) = N + 1 + 1 by omega, r_step hF (by omega) (by omega)]
  have e := hL (mL m 65) (rX9_reckonAll_10 (N + 1)) (nI last) d a (op a) (ar a) h (by omega)
  rw [wL_id] at e
  rw [e, hv]
set_option maxRecDepth 100000 in
theorem RSeg_not (h : RSeg op ar lv L a b p v) (ho : op b = 28) (hv : v ≠ BR → 1 - v ≠ BR) : RSeg op ar lv L a (b + 1) p (nt v) := by
  obtain ⟨h1, h2, h3⟩ := h
  refine ⟨by omega, h2, fun m N d last hS h38 hF hL hb hl hd => ?_⟩
  obtain ⟨k1, k2⟩ := h3 m (N + 1) d last hS h38 (FE_sub hF (Nat.le_refl a) (by omega)) hL (by omega) hl hd
  have ef : N + 1 + (b + 1 - a) = N + 1 + 1 + (b - a) := by omega
  unfold nt
  by_cases z : v = BR
  · rw [if_pos z]
    refine ⟨fun q => absurd rfl q, fun _ => ?_⟩
    rw [ef]; exact k2 z
  · rw [if_neg z]
    refine ⟨fun _ => ?_, fun q => absurd q (hv z)⟩
    obtain ⟨r, S, e1, e2, e3⟩ := k1 z
    refine ⟨r, vp_updL S d (1 - v), ?_, pk_uLs, fun j hj => by rw [pk_uLn (by omega)]; exact e3 j hj⟩
    rw [ef, e1, show N + 1 + 1 + r = N + 1 + r + 1 by omega, r_step (FE_w hF S) (by omega) (by omega), ho, r_not (m := wL m 65 S) hS (by omega), wL_s]
    show rX9_reckonAll_10 _ (wL m 65 (vp_updL S d (1 - S d))) 45 _ _ _ = _
    rw [e2]
set_option maxRecDepth 100000 in
theorem RSeg_bin {o : Int32} (h : RSeg op ar lv L a b p v) (k : RSeg op ar lv L b c q w) (hj : isJ o) (ho : op c = rop o) : RSeg op ar lv L a (c + 1) (p + q) (jn o v w) := by
  obtain ⟨h1, h2, h3⟩ := h
  obtain ⟨k1, k2, k3⟩ := k
  refine ⟨by omega, by omega, fun m N d last hS h38 hF hL hb hl hd => ?_⟩
  obtain ⟨x1, x2⟩ := h3 m (N + (c - b) + 1) d last hS h38 (FE_sub hF (Nat.le_refl a) (by omega)) hL (by omega) hl (by omega)
  have ef : N + 1 + (c + 1 - a) = N + (c - b) + 1 + 1 + (b - a) := by omega
  by_cases z : v = BR
  · have ej : jn o v w = BR := by unfold jn; rw [if_pos z]
    rw [ej, ef]
    exact ⟨fun q => absurd rfl q, fun _ => x2 z⟩
  · obtain ⟨r, S, e1, e2, e3⟩ := x1 z
    obtain ⟨y1, y2⟩ := k3 (wL m 65 S) (N + 1 + r) (d + 1) last hS h38 (FE_w (FE_sub hF (by omega) (by omega)) S) (LE_w hL S) (by omega) hl (by omega)
    have ef2 : N + (c - b) + 1 + 1 + r = N + 1 + r + 1 + (c - b) := by omega
    by_cases z2 : w = BR
    · have ej : jn o v w = BR := by unfold jn; rw [if_neg z, if_pos z2]
      rw [ej, ef, e1, ef2]
      refine ⟨fun q => absurd rfl q, fun _ => ?_⟩
      obtain ⟨S2, T, f1⟩ := y2 z2
      rw [bkn_w] at f1
      exact ⟨S2, T, f1⟩
    · obtain ⟨r2, S2, f1, f2, f3⟩ := y1 z2
      rw [wL_s] at f1
      have hsteps : rX9_reckonAll_10 (N + 1 + (c + 1 - a)) m 45 (nI last) (nI d) (nI a) = bX9_reckonAll_95 (rX9_reckonAll_10 (N + 1 + r + r2)) (wL m 65 S2) 45 (nI last) (nI (d + 2)) (nI c) (rop o) (ar c) := by
        rw [ef, e1, ef2, f1, show N + 1 + r + 1 + r2 = N + 1 + r + r2 + 1 by omega, r_step (FE_w hF S2) (by omega) (by omega), ho]
      have f3' : S2 d = v := by rw [f3 d (by omega)]; exact e2
      obtain ⟨g1, g2⟩ := r_join (m := wL m 65 S2) (K := rX9_reckonAll_10 (N + 1 + r + r2)) (last := nI last) (arg := ar c) (k := c) (d := d) hS (by omega) h38 hj (show (wL m 65 S2).2.2.2.1 65 d = v from f3') (show (wL m 65 S2).2.2.2.1 65 (d + 1) = w from f2) z z2
      refine ⟨fun z3 => ?_, fun z3 => ?_⟩
      · refine ⟨r + r2, vp_updL S2 d (jn o v w), ?_, pk_uLs, fun j hj => ?_⟩
        · rw [hsteps, g1 z3, wL_s, show N + 1 + (r + r2) = N + 1 + r + r2 by omega]
          rfl
        · rw [pk_uLn (by omega), f3 j (by omega)]; exact e3 j hj
      · obtain ⟨x, g3⟩ := g2 z3
        obtain ⟨T, g4⟩ := r_exit (m := m) hS (last := last) (k := c + 1) (d := d + 1) (N := N + r + r2) (S := vp_updL S2 d x) (by omega)
        refine ⟨vp_updL S2 d x, T, ?_⟩
        rw [hsteps, g3, bkn_w, show N + 1 + r + r2 = N + r + r2 + 1 by omega]
        exact g4
/-- what is a test's value -/
abbrev tv (v : Int64) : Prop := v = 0 ∨ v = 1 ∨ v = BR
set_option maxRecDepth 100000 in
theorem RSeg_and {e : Nat} (h : RSeg op ar lv L a b p v) (hv : tv v) (k : RSeg op ar lv L (b + 1) e q w) (ho : op b = 29) (he : ar b = nI e) : RSeg op ar lv L a e (p + q) (jAnd v w) := by
  obtain ⟨h1, h2, h3⟩ := h
  obtain ⟨k1, k2, k3⟩ := k
  refine ⟨by omega, by omega, fun m N d last hS h38 hF hL hb hl hd => ?_⟩
  obtain ⟨x1, x2⟩ := h3 m (N + (e - b)) d last hS h38 (FE_sub hF (Nat.le_refl a) (by omega)) hL (by omega) hl (by omega)
  have ef : N + 1 + (e - a) = N + (e - b) + 1 + (b - a) := by omega
  unfold jAnd
  rcases hv with z | z | z
  · rw [if_neg (by rw [z]; decide), ef]
    refine ⟨fun _ => ?_, fun q => absurd (z.symm.trans q) (by decide)⟩
    obtain ⟨r, S, e1, e2, e3⟩ := x1 (by rw [z]; decide)
    refine ⟨e - b - 1 + r, S, ?_, e2, e3⟩
    rw [e1, show N + (e - b) + 1 + r = N + (e - b) + r + 1 by omega, r_step (FE_w hF S) (by omega) (by omega), ho, he, r_and (m := wL m 65 S) hS (by omega), if_pos (show mL (wL m 65 S) 65 d = 0 from e2.trans z), show N + (e - b) + r = N + 1 + (e - b - 1 + r) by omega]
  · obtain ⟨r, S, e1, e2, e3⟩ := x1 (by rw [z]; decide)
    obtain ⟨y1, y2⟩ := k3 (wL m 65 S) (N + r) d last hS h38 (FE_w (FE_sub hF (by omega) (by omega)) S) (LE_w hL S) (by omega) hl (by omega)
    have st : rX9_reckonAll_10 (N + 1 + (e - a)) m 45 (nI last) (nI d) (nI a) = rX9_reckonAll_10 (N + r + 1 + (e - (b + 1))) (wL m 65 S) 45 (nI last) (nI d) (nI (b + 1)) := by
      rw [ef, e1, show N + (e - b) + 1 + r = N + (e - b) + r + 1 by omega, r_step (FE_w hF S) (by omega) (by omega), ho, r_and (m := wL m 65 S) hS (by omega), if_neg (show ¬ mL (wL m 65 S) 65 d = 0 from fun y => absurd (e2.symm.trans y) (by rw [z]; decide)), show N + (e - b) + r = N + r + 1 + (e - (b + 1)) by omega]
    rw [if_pos z]
    refine ⟨fun z2 => ?_, fun z2 => ?_⟩
    · obtain ⟨r2, S2, f1, f2, f3⟩ := y1 z2
      rw [wL_s] at f1
      refine ⟨r + r2, S2, ?_, f2, fun j hj => by rw [f3 j hj]; exact e3 j hj⟩
      rw [st, f1, show N + r + 1 + r2 = N + 1 + (r + r2) by omega]
    · obtain ⟨S2, T, f1⟩ := y2 z2
      rw [bkn_w] at f1
      exact ⟨S2, T, st.trans f1⟩
  · rw [if_neg (by rw [z]; decide), ef]
    exact ⟨fun q => absurd z q, fun _ => x2 z⟩
set_option maxRecDepth 100000 in
theorem RSeg_or {e : Nat} (h : RSeg op ar lv L a b p v) (hv : tv v) (k : RSeg op ar lv L (b + 1) e q w) (ho : op b = 30) (he : ar b = nI e) : RSeg op ar lv L a e (p + q) (jOr v w) := by
  obtain ⟨h1, h2, h3⟩ := h
  obtain ⟨k1, k2, k3⟩ := k
  refine ⟨by omega, by omega, fun m N d last hS h38 hF hL hb hl hd => ?_⟩
  obtain ⟨x1, x2⟩ := h3 m (N + (e - b)) d last hS h38 (FE_sub hF (Nat.le_refl a) (by omega)) hL (by omega) hl (by omega)
  have ef : N + 1 + (e - a) = N + (e - b) + 1 + (b - a) := by omega
  unfold jOr
  rcases hv with z | z | z
  · obtain ⟨r, S, e1, e2, e3⟩ := x1 (by rw [z]; decide)
    obtain ⟨y1, y2⟩ := k3 (wL m 65 S) (N + r) d last hS h38 (FE_w (FE_sub hF (by omega) (by omega)) S) (LE_w hL S) (by omega) hl (by omega)
    have st : rX9_reckonAll_10 (N + 1 + (e - a)) m 45 (nI last) (nI d) (nI a) = rX9_reckonAll_10 (N + r + 1 + (e - (b + 1))) (wL m 65 S) 45 (nI last) (nI d) (nI (b + 1)) := by
      rw [ef, e1, show N + (e - b) + 1 + r = N + (e - b) + r + 1 by omega, r_step (FE_w hF S) (by omega) (by omega), ho, r_or (m := wL m 65 S) hS (by omega), if_neg (show ¬ mL (wL m 65 S) 65 d = 1 from fun y => absurd (e2.symm.trans y) (by rw [z]; decide)), show N + (e - b) + r = N + r + 1 + (e - (b + 1)) by omega]
    rw [if_pos z]
    refine ⟨fun z2 => ?_, fun z2 => ?_⟩
    · obtain ⟨r2, S2, f1, f2, f3⟩ := y1 z2
      rw [wL_s] at f1
      refine ⟨r + r2, S2, ?_, f2, fun j hj => by rw [f3 j hj]; exact e3 j hj⟩
      rw [st, f1, show N + r + 1 + r2 = N + 1 + (r + r2) by omega]
    · obtain ⟨S2, T, f1⟩ := y2 z2
      rw [bkn_w] at f1
      exact ⟨S2, T, st.trans f1⟩
  · rw [if_neg (by rw [z]; decide), ef]
    refine ⟨fun _ => ?_, fun q => absurd (z.symm.trans q) (by decide)⟩
    obtain ⟨r, S, e1, e2, e3⟩ := x1 (by rw [z]; decide)
    refine ⟨e - b - 1 + r, S, ?_, e2, e3⟩
    rw [e1, show N + (e - b) + 1 + r = N + (e - b) + r + 1 by omega, r_step (FE_w hF S) (by omega) (by omega), ho, he, r_or (m := wL m 65 S) hS (by omega), if_pos (show mL (wL m 65 S) 65 d = 1 from e2.trans z), show N + (e - b) + r = N + 1 + (e - b - 1 + r) by omega]
  · rw [if_neg (by rw [z]; decide), ef]
    exact ⟨fun q => absurd z q, fun _ => x2 z⟩
end
set_option maxRecDepth 100000 in
/-- the whole value -/
theorem RSeg_value {op ar : Nat → Int32} {lv : Int32 → Int32 → Prop} {L : Int32 → Int32 → Int64} {a b p : Nat} {v : Int64} (h : RSeg op ar lv L a b p v) (hp : p ≤ 400) (hb : b ≤ 400) {m : Mm} (hS : hSh m) (hF : FE (wI m 45 (upd (mI m 45) 38 0)) op ar a b b) (hL : LE (wI m 45 (upd (mI m 45) 38 0)) lv L) :
    (v ≠ BR → ∃ S, fX9_reckonAll m 45 (nI a) (nI b) = some ((), wL (wL (wI m 45 (upd (mI m 45) 38 0)) 65 S) 45 (vp_updL (mL m 45) 39 v))) ∧ (v = BR → ∃ S y, fX9_reckonAll m 45 (nI a) (nI b) = some ((), wL (bkn m S) 45 (vp_updL (mL m 45) 39 y))) := by
  obtain ⟨h1, h2, h3⟩ := h
  have hS1 : hSh (wI m 45 (upd (mI m 45) 38 0)) := hS
  obtain ⟨x1, x2⟩ := h3 (wI m 45 (upd (mI m 45) 38 0)) (999999 - (b - a)) 0 b hS1 rfl hF hL (Nat.le_refl b) hb (by omega)
  unfold fX9_reckonAll
  rw [oK_of (sh45 hS), oZ0, oU_of, show hwF = 999999 - (b - a) + 1 + (b - a) by unfold hwF; omega]
  refine ⟨fun z => ?_, fun z => ?_⟩
  · obtain ⟨r, S, e1, e2, e3⟩ := x1 z
    refine ⟨S, ?_⟩
    refine Eq.trans e1 ?_
    have h2 : hSh (wL (wI m 45 (upd (mI m 45) 38 0)) 65 S) := hS
    rw [show 999999 - (b - a) + 1 + r = 999999 - (b - a) + r + 1 by omega]
    show bX9_reckonAll_10 _ _ 45 (nI b) (nI 1) (nI b) = _
    unfold bX9_reckonAll_10 bX9_reckonAll_356 bX9_reckonAll_371
    rw [if_pos (Int32.le_refl _), if_neg (by decide), oK_of (sh45 h2), rf45_37 h2, oNn_of, oA_of (sh65 h2) (by decide) (by decide), oJ_of, oK_of (sh45 h2), oU_of]
    show some ((), wL (wL (wI m 45 (upd (mI m 45) 38 0)) 65 S) 45 (vp_updL (mL m 45) 39 (S 0))) = _
    rw [e2]
  · obtain ⟨S, T, e1⟩ := x2 z
    refine ⟨S, T, ?_⟩
    refine Eq.trans e1 ?_
    have e : bkn (wI m 45 (upd (mI m 45) 38 0)) S = bkn m S := by
      show wI (wI (wL m 65 S) 45 (upd (mI m 45) 38 0)) 45 (upd (upd (mI m 45) 38 0) 38 1) = wI (wL m 65 S) 45 (upd (mI m 45) 38 1)
      rw [wI_s, upd_s]
    rw [e]
    rfl
