/-! ===== feed ===== -/
set_option maxRecDepth 100000 in
theorem wI_s {u : Mm} {a : Nat} {f g : Nat → Int32} : wI (wI u a f) a g = wI u a g := by
  unfold wI
  refine Prod.ext rfl (Prod.ext rfl (Prod.ext ?_ (Prod.ext rfl rfl)))
  funext b
  show (if b = a then g else if b = a then f else u.2.2.1 b) = if b = a then g else u.2.2.1 b
  by_cases c : b = a
  · rw [if_pos c, if_pos c]
  · rw [if_neg c, if_neg c, if_neg c]
set_option maxRecDepth 100000 in
theorem wI_c {u : Mm} {a b : Nat} {f g : Nat → Int32} (h : a ≠ b) : wI (wI u a f) b g = wI (wI u b g) a f := by
  unfold wI
  refine Prod.ext rfl (Prod.ext rfl (Prod.ext ?_ (Prod.ext rfl rfl)))
  funext c
  show (if c = b then g else if c = a then f else u.2.2.1 c) = if c = a then f else if c = b then g else u.2.2.1 c
  by_cases c1 : c = b
  · rw [if_pos c1, if_neg (by omega), if_pos c1]
  · by_cases c2 : c = a
    · rw [if_neg c1, if_pos c2, if_pos c2]
    · rw [if_neg c1, if_neg c2, if_neg c2, if_neg c1]
set_option maxRecDepth 100000 in
theorem wI_id {u : Mm} {a : Nat} : wI u a (mI u a) = u := by
  unfold wI mI
  refine Prod.ext rfl (Prod.ext rfl (Prod.ext ?_ (Prod.ext rfl rfl)))
  funext c
  show (if c = a then u.2.2.1 a else u.2.2.1 c) = u.2.2.1 c
  by_cases c1 : c = a
  · rw [if_pos c1, c1]
  · rw [if_neg c1]
set_option maxRecDepth 100000 in
theorem upd_s {f : Nat → Int32} {k : Nat} {x y : Int32} : upd (upd f k x) k y = upd f k y := by
  funext j
  by_cases c : j = k
  · subst c; rw [pk_us, pk_us]
  · rw [pk_un c, pk_un c, pk_un c]
set_option maxRecDepth 100000 in
theorem upd_c {f : Nat → Int32} {k l : Nat} {x y : Int32} (h : k ≠ l) : upd (upd f k x) l y = upd (upd f l y) k x := by
  funext j
  by_cases c : j = k
  · subst c; rw [pk_us, pk_un h, pk_us]
  · by_cases d : j = l
    · subst d; rw [pk_us, pk_un c, pk_us]
    · rw [pk_un d, pk_un c, pk_un c, pk_un d]
def byt (x s : Int32) : Int32 := (Int32.toUInt32 x >>> (Int32.toUInt32 s &&& Int32.toUInt32 31)).toInt32 &&& 255
set_option maxRecDepth 100000 in
theorem byt_rg (x s : Int32) : rg (byt x s) 0 255 := by
  have e : ∀ y : Int32, rg (y &&& 255) 0 255 := by
    intro y
    unfold rg
    have k : (y &&& 255).toBitVec.toNat ≤ 255 := by
      rw [Int32.toBitVec_and, BitVec.toNat_and]
      exact Nat.and_le_right
    have k2 : (y &&& 255).toInt = (y &&& 255).toBitVec.toInt := rfl
    rw [k2, BitVec.toInt_eq_toNat_cond]
    split <;> omega
  exact e _
set_option maxRecDepth 100000 in
theorem byt_eq (x s : Int32) (hs : s = 24 ∨ s = 16 ∨ s = 8 ∨ s = 0) : (x >>> (s &&& 31)) &&& 255 = byt x s := by
  have hb : ∀ i, i < 32 → 8 ≤ i → (255#32).getLsbD i = false := by decide
  have k : ∀ n : Nat, n ≤ 24 → ∀ b : BitVec 32, (b.sshiftRight n) &&& 255#32 = (b >>> n) &&& 255#32 := by
    intro n hn b
    apply BitVec.eq_of_getLsbD_eq
    intro i hi
    rw [BitVec.getLsbD_and, BitVec.getLsbD_and]
    by_cases c : i < 8
    · rw [BitVec.getLsbD_sshiftRight, BitVec.getLsbD_ushiftRight]
      have : n + i < 32 := by omega
      have h2 : ¬ 32 ≤ i := by omega
      simp [this, hi, h2]
    · rw [hb i hi (by omega)]; simp
  unfold byt
  apply Int32.toBitVec.inj
  rw [Int32.toBitVec_and, Int32.toBitVec_and]
  rcases hs with rfl | rfl | rfl | rfl
  · exact k 24 (by decide) x.toBitVec
  · exact k 16 (by decide) x.toBitVec
  · exact k 8 (by decide) x.toBitVec
  · exact k 0 (by decide) x.toBitVec
def tp (f : Nat → Int32) (n : Nat) (x : Int32) : Nat → Int32 := upd (upd (upd (upd f n (byt x 24)) (n + 1) (byt x 16)) (n + 2) (byt x 8)) (n + 3) (byt x 0)
set_option maxRecDepth 100000 in
theorem Rta_upd {c m : Nat → Int32} {k : Nat} {v : Int32} (h : Rta c m) (hv : rg v 0 255) : Rta (upd c k v) (upd m k v) := by
  intro i hi
  by_cases e : i = k
  · subst e; rw [pk_us, pk_us]; exact ⟨rfl, hv⟩
  · rw [pk_un e, pk_un e]; exact h i hi
set_option maxRecDepth 100000 in
theorem Rta_tp {c m : Nat → Int32} {n : Nat} {x : Int32} (h : Rta c m) : Rta (tp c n x) (tp m n x) := Rta_upd (Rta_upd (Rta_upd (Rta_upd h (byt_rg _ _)) (byt_rg _ _)) (byt_rg _ _)) (byt_rg _ _)
set_option maxRecDepth 100000 in
theorem addB1 {u : Mm} (h : hSh u) {x s : Int32} {n N : Nat} (hn : mI u 0 12 = nI n) (hl : n < 400) (hs : ¬ s < 0) : rX8_addBytes_3 (N + 1) u 0 x s = rX8_addBytes_3 N (wI (wI u 42 (upd (mI u 42) n (byt x s))) 0 (upd (mI u 0) 12 (nI (n + 1)))) 0 x (s + (-8)) := by
  show bX8_addBytes_3 (rX8_addBytes_3 N) u 0 x s = _
  unfold bX8_addBytes_3
  have k : ¬ (400 : Int32) ≤ nI n := nI_ge (b := 400) hl (by decide)
  rw [if_neg hs, oK_of (sh0 h), oI_of, hn, if_neg k]
  simp (config := {implicitDefEqProofs := false}) only [oK, oR, oA_n, oA_l, oNn_of, oI_of, oJ_of, oU_of, oP_of, oB_of, oZ0, oZ1, mK_wI, mK_wL, mR_wI, mR_wL, mI_wI, mI_wL, mL_wI, mL_wL, Nat.reduceEqDiff, Nat.reduceLT, Nat.reduceAdd, Nat.reduceMul, Int32.reduceLE, Int32.reduceLT, Int32.reduceAdd, Int32.reduceSub, Int32.reduceMul, Int32.reduceToNatClampNeg, x10, ↓reduceIte, sh0 h, rf0_11 h, sh42 h, hn, hl, clm (show n < 2147483648 by omega), nI_1]
  rfl
set_option maxRecDepth 100000 in
theorem upd_id {f : Nat → Int32} {k : Nat} {x : Int32} (h : f k = x) : upd f k x = f := by
  funext j
  by_cases c : j = k
  · subst c; rw [pk_us, h]
  · rw [pk_un c]
set_option maxRecDepth 100000 in
theorem addB2 {u : Mm} (h : hSh u) {x s : Int32} {n N : Nat} {f : Nat → Int32} (hl : n < 400) (hs : ¬ s < 0) : rX8_addBytes_3 (N + 1) (wI (wI u 42 f) 0 (upd (mI u 0) 12 (nI n))) 0 x s = rX8_addBytes_3 N (wI (wI u 42 (upd f n (byt x s))) 0 (upd (mI u 0) 12 (nI (n + 1)))) 0 x (s + (-8)) := by
  rw [addB1 (u := wI (wI u 42 f) 0 (upd (mI u 0) 12 (nI n))) h (n := n) rfl hl hs]
  simp only [mI_wI, Nat.reduceEqDiff, ↓reduceIte, upd_s]
  rw [wI_c (show 0 ≠ 42 by decide), wI_s, wI_s]
set_option maxRecDepth 100000 in
theorem addB {u : Mm} (h : hSh u) {x : Int32} {n : Nat} (hn : mI u 0 12 = nI n) (hl : n + 4 ≤ 400) : fX8_addBytes u 0 x = some ((), wI (wI u 42 (tp (mI u 42) n x)) 0 (upd (mI u 0) 12 (nI (n + 4)))) := by
  show rX8_addBytes_3 (999995 + 1 + 1 + 1 + 1 + 1) u 0 x 24 = _
  have e : u = wI (wI u 42 (mI u 42)) 0 (upd (mI u 0) 12 (nI n)) := by rw [upd_id hn, wI_id, wI_id]
  have e2 : rX8_addBytes_3 (999995 + 1 + 1 + 1 + 1 + 1) u 0 x 24 = rX8_addBytes_3 (999995 + 1 + 1 + 1 + 1 + 1) (wI (wI u 42 (mI u 42)) 0 (upd (mI u 0) 12 (nI n))) 0 x 24 := congrArg (fun v => rX8_addBytes_3 (999995 + 1 + 1 + 1 + 1 + 1) v 0 x 24) e
  rw [e2, addB2 h (by omega) (by decide), addB2 h (by omega) (by decide), addB2 h (by omega) (by decide), addB2 h (by omega) (by decide)]
  rfl
set_option maxRecDepth 100000 in
theorem fourB1 {u : Mm} (h : hSh u) {x s : Int32} {n N : Nat} (hn : mI u 45 13 = nI n) (hl : n < 400) (hs : s = 24 ∨ s = 16 ∨ s = 8 ∨ s = 0) : rX9_four_3 (N + 1) u 45 x s = rX9_four_3 N (wI (wI u 54 (upd (mI u 54) n (byt x s))) 45 (upd (mI u 45) 13 (nI (n + 1)))) 45 x (s + (-8)) := by
  have hs2 : ¬ s < 0 := by rcases hs with rfl | rfl | rfl | rfl <;> decide
  show bX9_four_3 (rX9_four_3 N) u 45 x s = _
  unfold bX9_four_3
  rw [if_neg hs2, byt_eq x s hs]
  simp (config := {implicitDefEqProofs := false}) only [oK, oR, oA_n, oA_l, oNn_of, oI_of, oJ_of, oU_of, oP_of, oB_of, oZ0, oZ1, mK_wI, mK_wL, mR_wI, mR_wL, mI_wI, mI_wL, mL_wI, mL_wL, Nat.reduceEqDiff, Nat.reduceLT, Nat.reduceAdd, Nat.reduceMul, Int32.reduceLE, Int32.reduceLT, Int32.reduceAdd, Int32.reduceSub, Int32.reduceMul, Int32.reduceToNatClampNeg, x10, ↓reduceIte, sh45 h, rf45_12 h, sh54 h, hn, hl, clm (show n < 2147483648 by omega), nI_1]
set_option maxRecDepth 100000 in
theorem fourB2 {u : Mm} (h : hSh u) {x s : Int32} {n N : Nat} {f : Nat → Int32} (hl : n < 400) (hs : s = 24 ∨ s = 16 ∨ s = 8 ∨ s = 0) : rX9_four_3 (N + 1) (wI (wI u 54 f) 45 (upd (mI u 45) 13 (nI n))) 45 x s = rX9_four_3 N (wI (wI u 54 (upd f n (byt x s))) 45 (upd (mI u 45) 13 (nI (n + 1)))) 45 x (s + (-8)) := by
  rw [fourB1 (u := wI (wI u 54 f) 45 (upd (mI u 45) 13 (nI n))) h (n := n) rfl hl hs]
  simp only [mI_wI, Nat.reduceEqDiff, ↓reduceIte, upd_s]
  rw [wI_c (show 45 ≠ 54 by decide), wI_s, wI_s]
set_option maxRecDepth 100000 in
theorem fourB {u : Mm} (h : hSh u) {x : Int32} {n : Nat} (hn : mI u 45 13 = nI n) (hl : n + 4 ≤ 400) : fX9_four u 45 x = some ((), wI (wI u 54 (tp (mI u 54) n x)) 45 (upd (mI u 45) 13 (nI (n + 4)))) := by
  show rX9_four_3 (999995 + 1 + 1 + 1 + 1 + 1) u 45 x 24 = _
  have e : u = wI (wI u 54 (mI u 54)) 45 (upd (mI u 45) 13 (nI n)) := by rw [upd_id hn, wI_id, wI_id]
  have e2 : rX9_four_3 (999995 + 1 + 1 + 1 + 1 + 1) u 45 x 24 = rX9_four_3 (999995 + 1 + 1 + 1 + 1 + 1) (wI (wI u 54 (mI u 54)) 45 (upd (mI u 45) 13 (nI n))) 45 x 24 := congrArg (fun v => rX9_four_3 (999995 + 1 + 1 + 1 + 1 + 1) v 45 x 24) e
  rw [e2, fourB2 h (by omega) (by decide), fourB2 h (by omega) (by decide), fourB2 h (by omega) (by decide), fourB2 h (by omega) (by decide)]
  rfl
/-- five times four -/
def tq (f : Nat → Int32) (n : Nat) (a b c d e : Int32) : Nat → Int32 := tp (tp (tp (tp (tp f n a) (n + 4) b) (n + 8) c) (n + 12) d) (n + 16) e
set_option maxRecDepth 100000 in
theorem addB3 {u : Mm} (h : hSh u) {x : Int32} {n : Nat} {f : Nat → Int32} (hl : n + 4 ≤ 400) : fX8_addBytes (wI (wI u 42 f) 0 (upd (mI u 0) 12 (nI n))) 0 x = some ((), wI (wI u 42 (tp f n x)) 0 (upd (mI u 0) 12 (nI (n + 4)))) := by
  rw [addB (u := wI (wI u 42 f) 0 (upd (mI u 0) 12 (nI n))) h (n := n) rfl hl]
  simp only [mI_wI, Nat.reduceEqDiff, ↓reduceIte, upd_s]
  rw [wI_c (show 0 ≠ 42 by decide), wI_s, wI_s]
set_option maxRecDepth 100000 in
theorem fourB3 {u : Mm} (h : hSh u) {x : Int32} {n : Nat} {f : Nat → Int32} (hl : n + 4 ≤ 400) : fX9_four (wI (wI u 54 f) 45 (upd (mI u 45) 13 (nI n))) 45 x = some ((), wI (wI u 54 (tp f n x)) 45 (upd (mI u 45) 13 (nI (n + 4)))) := by
  rw [fourB (u := wI (wI u 54 f) 45 (upd (mI u 45) 13 (nI n))) h (n := n) rfl hl]
  simp only [mI_wI, Nat.reduceEqDiff, ↓reduceIte, upd_s]
  rw [wI_c (show 45 ≠ 54 by decide), wI_s, wI_s]
set_option maxRecDepth 100000 in
theorem le400 {n : Nat} (hn : n ≤ 400) : (nI n + 20 ≤ 400) ↔ n + 20 ≤ 400 := by
  rw [show (20 : Int32) = nI 20 from rfl, show (400 : Int32) = nI 400 from rfl, nI_add, nI_leI (by omega) (by decide)]
set_option maxRecDepth 100000 in
theorem c_feed {u : Mm} (h : hSh u) {a b c d e : Int32} {n : Nat} (hn : mI u 0 12 = nI n) (hl : n + 20 ≤ 400) : fX8_feed u 0 a b c d e = some (nI (n + 20), wI (wI u 42 (tq (mI u 42) n a b c d e)) 0 (upd (mI u 0) 12 (nI (n + 20)))) := by
  have h8 : ∀ f g, (mK (wI (wI u 42 f) 0 g) 0) = (8, 19) := fun _ _ => sh0 h
  unfold fX8_feed
  rw [oK_of (sh0 h), oI_of, hn, if_pos ((le400 (by omega)).mpr hl), oR_of (sh0 h), addB h hn (by omega), oB_of, oR_of (h8 _ _), addB3 h (by omega), oB_of, oR_of (h8 _ _), addB3 h (by omega), oB_of, oR_of (h8 _ _), addB3 h (by omega), oB_of, oR_of (h8 _ _), addB3 h (by omega), oB_of, oK_of (h8 _ _), oI_of]
  rfl
set_option maxRecDepth 100000 in
theorem m_feed {u : Mm} (h : hSh u) {a b c d e : Int32} {n : Nat} (hn : mI u 45 13 = nI n) (hl : n + 20 ≤ 400) : fX9_feed u 45 a b c d e = some (nI (n + 20), wI (wI (mT u) 54 (tq (mI u 54) n a b c d e)) 45 (upd (mI (mT u) 45) 13 (nI (n + 20)))) := by
  have h1 : hSh (mT u) := h
  have hn1 : mI (mT u) 45 13 = nI n := hn
  have h8 : ∀ f g, (mK (wI (wI (mT u) 54 f) 45 g) 45) = (9, 54) := fun _ _ => sh45 h
  unfold fX9_feed
  rw [oK_of (sh45 h), oT, oK_of (sh45 h1), oI_of, hn1, if_pos ((le400 (by omega)).mpr hl), oR_of (sh45 h1), fourB h1 hn1 (by omega), oB_of, oR_of (h8 _ _), fourB3 h1 (by omega), oB_of, oR_of (h8 _ _), fourB3 h1 (by omega), oB_of, oR_of (h8 _ _), fourB3 h1 (by omega), oB_of, oR_of (h8 _ _), fourB3 h1 (by omega), oB_of, oK_of (h8 _ _), oI_of]
  rfl
set_option maxRecDepth 100000 in
theorem Rta_tq {c m : Nat → Int32} {n : Nat} {a b d e g : Int32} (h : Rta c m) : Rta (tq c n a b d e g) (tq m n a b d e g) := Rta_tp (Rta_tp (Rta_tp (Rta_tp (Rta_tp h))))
set_option maxRecDepth 100000 in
theorem s7 {LR : Mm → Prop} (hF : LRf LR) : hwS_7 (Rel LR) := by
  intro a b c d e u h
  have hS := h.1
  have e5 := h.2.2.1.2.2.2.2.1
  obtain ⟨n, hn, e12⟩ := rg_nI (M := 400) h.2.2.1.2.2.2.2.2.2.1 (by decide)
  have e13 := e12
  rw [e5] at e13
  by_cases hl : n + 20 ≤ 400
  · have hc := c_feed hS (a := a) (b := b) (c := c) (d := d) (e := e) e12 hl
    have hm := m_feed (u := wI (wI u 42 (tq (mI u 42) n a b c d e)) 0 (upd (mI u 0) 12 (nI (n + 20)))) hS (a := a) (b := b) (c := c) (d := d) (e := e) e13 hl
    refine ⟨_, _, _, hc, hR45_Rel hS, hm, ?_⟩
    refine Rel_put hF h rfl rfl rfl (fun a ha => ?_) (Rbk_eq h.2.1 (fun j hj => ?_) (fun _ _ => rfl)) rl0 rfl rfl ?_ (Rta_tq h.2.2.2.1) h.2.2.2.2.1 (Rpa_upd (k := 13) (Rpa_upd (k := 0) h.2.2.2.2.2.1 (by decide)) (by decide))
    · unfold mT; simp only [mI_wI]; repeat rw [if_neg (by omega)]
    · unfold mT; simp only [mI_wI]; repeat rw [if_neg (by omega)]
    · obtain ⟨h1, h2, h3, h4, h5, h6, h7, h8, h9, h10⟩ := h.2.2.1
      exact ⟨h1, h2, h3, h4, rfl, h6, nI_rg (M := 400) (by omega) (by decide), h8, h9, h10⟩
  · refine ⟨-1, u, mT u, ?_, hR45_Rel hS, ?_, Rel_mT hF h⟩
    · show fX8_feed u 0 a b c d e = _
      unfold fX8_feed
      rw [oK_of (sh0 hS), oI_of, e12, if_neg (fun q => hl ((le400 hn).mp q))]
    · show fX9_feed u 45 a b c d e = _
      have h1 : hSh (mT u) := hS
      have hn1 : mI (mT u) 45 13 = nI n := e13
      unfold fX9_feed
      rw [oK_of (sh45 hS), oT, oK_of (sh45 h1), oI_of, hn1, if_neg (fun q => hl ((le400 hn).mp q))]
