/-! ===== chain, stilled ===== -/
def nxS (A : Nat → Int32) (t g s : Nat) : Int32 := if bitN t g = 1 then -1 else A (2 * g + s)
set_option maxRecDepth 100000 in
theorem c_ch {c : Mm} (h : hSh c) {A : Nat → Int32} (hA : ∀ g s, g < 8 → s < 2 → mI c 5 (2 * g + s) = A (2 * g + s)) {t m g s n N : Nat} (ht : t < 256) (hm : m < 65536) (hg : g < 8) (hs : s < 2) (hn : n ≤ 16) : rX2_chainFrom_12 (N + 1) c 17 (nI t) (nI m) (nI g) (nI s) (nI n) = if bit1 m (2 * g + s) = 0 then rX2_chainFrom_12 N c 17 (nI t) (nI (m ||| 2 ^ (2 * g + s))) (nxS A t g s) (nI (1 - s)) (nI (n + 1)) else some (-nI (cnt m), c) := by
  show bX2_chainFrom_12 (rX2_chainFrom_12 N) c 17 (nI t) (nI m) (nI g) (nI s) (nI n) = _
  unfold bX2_chainFrom_12 bX2_chainFrom_89 fX8_pair
  have c1 : 0 ≤ nI g ∧ nI g ≤ 7 := ⟨nI_pos' (by omega), nI_le (b := 7) (by omega) (by decide)⟩
  rw [if_neg (show ¬ (16 : Int32) < nI n from nI_nlt (a := 16) hn (by decide)), c_isSign, oB_of, if_pos c1, if_neg (by decide), oB_of, ixq, oI_of]
  by_cases z : bit1 m (2 * g + s) = 0
  · rw [if_pos ((and_zero hm (by omega)).mpr z), if_pos z, oI_of, shl1 _ (by omega), nI_or]
    unfold nxS
    rcases bitN01 t g with q | q
    · rw [if_neg (fun w => by rw [(bit_iff ht hg).mp w] at q; cases q), if_neg (by rw [q]; decide), oK_of (sh17 h), rf17_0 h, oNn_of, oK_of (sh1 h), rf1_2 h, oNn_of, oB_of, oA_k (sh5 h) (by omega) (by decide), oI_of, clm (by omega), hA g s hg hs, oI_of, i1s hs, nI_1]
    · rw [if_pos ((bit_iff ht hg).mpr q), if_pos q, oI_of, i1s hs, nI_1]
  · rw [if_neg (fun w => z ((and_zero hm (by omega)).mp w)), if_neg z, bc_cnt hm, oB_of]
set_option maxRecDepth 100000 in
theorem c_chE {c : Mm} {t m N : Nat} (hm : m < 65536) {x y z : Int32} : rX2_chainFrom_12 (N + 1) c 17 z (nI m) (-1) x y = some (nI (cnt m), c) := by
  show bX2_chainFrom_12 (rX2_chainFrom_12 N) c 17 z (nI m) (-1) x y = _
  unfold bX2_chainFrom_12 bX2_chainFrom_103
  rw [c_isSign, oB_of, bc_cnt hm, oB_of, if_neg (show ¬ (0 ≤ (-1 : Int32) ∧ (-1 : Int32) ≤ 7) by decide), if_pos (show (0 : Int32) = 0 from rfl), ite_self]
set_option maxRecDepth 100000 in
theorem ixr {a b : Nat} : (2 : Int32) * nI a + nI b = nI (2 * a + b) := by rw [show (2 : Int32) = nI 2 from rfl, nI_mul, nI_add]
set_option maxRecDepth 100000 in
theorem m_ch {u : Mm} (h : hSh u) {A f : Nat → Int32} (hA : ∀ g s, g < 8 → s < 2 → mI u 47 (51 + 2 * g + s) = A (2 * g + s)) {t g s n N : Nat} (ht : t < 256) (hg : g < 8) (hs : s < 2) : rX9_chainOf_33 (N + 1) (wI u 66 f) 45 (nI t) (nI n) (nI g) (nI s) = if f (2 * g + s) = 0 then rX9_chainOf_33 N (wI u 66 (upd f (2 * g + s) 1)) 45 (nI t) (nI (n + 1)) (nxS A t g s) (nI (1 - s)) else some (-nI n, wI u 66 f) := by
  have h1 : hSh (wI u 66 f) := h
  have h2 : hSh (wI u 66 (upd f (2 * g + s) 1)) := h
  have hne : ¬ nI g = -1 := (by decide +kernel : ∀ w, w < 8 → ¬ nI w = -1) g hg
  show bX9_chainOf_33 (rX9_chainOf_33 N) (wI u 66 f) 45 (nI t) (nI n) (nI g) (nI s) = _
  unfold bX9_chainOf_33 bX9_chainOf_102
  rw [if_neg hne, ixr, oK_of (sh45 h1), rf45_41 h1, oNn_of, oA_k (sh66 h1) (by omega) (by decide), oI_of, clm (by omega)]
  show (if f (2 * g + s) = 0 then _ else _) = _
  by_cases z : f (2 * g + s) = 0
  · rw [if_pos z, if_pos z, oK_of (sh45 h1), oNn_of, oA_k (sh66 h1) (by omega) (by decide), oZ1, oU_of, wI_s]
    show oB (fX9_is (wI u 66 (upd f (2 * g + s) 1)) (nI t) (nI g)) _ = _
    rw [m_is ht hg, oB_of]
    unfold nxS
    rcases bitN01 t g with q | q
    · rw [q, if_pos (show nI 0 = 0 from rfl), if_neg (by decide), show (51 : Int32) = nI 51 from rfl, ixp, m_rowAt h2 (by omega), show mI (wI u 66 (upd f (2 * g + s) 1)) 47 (51 + 2 * g + s) = A (2 * g + s) from hA g s hg hs, oI_of, i1s hs, nI_1]
    · rw [q, if_neg (by decide), if_pos rfl, oI_of, i1s hs, nI_1]
  · rw [if_neg z, if_neg z]
set_option maxRecDepth 100000 in
theorem m_chE {u : Mm} {N : Nat} {x y z : Int32} : rX9_chainOf_33 (N + 1) u 45 x y (-1) z = some (y, u) := by
  show bX9_chainOf_33 (rX9_chainOf_33 N) u 45 x y (-1) z = _
  unfold bX9_chainOf_33
  rw [if_pos rfl]
set_option maxRecDepth 100000 in
theorem ch_joint {c u : Mm} (hc : hSh c) (hu : hSh u) {A : Nat → Int32} (hA : ∀ g s, g < 8 → s < 2 → mI c 5 (2 * g + s) = A (2 * g + s)) (hB : ∀ g s, g < 8 → s < 2 → mI u 47 (51 + 2 * g + s) = A (2 * g + s)) (hr : ∀ i, i < 16 → rg (A i) (-1) 7) {t N : Nat} (ht : t < 256) :
    ∀ (d m g s : Nat) (f : Nat → Int32), cnt m + d = 16 → m < 65536 → g < 8 → s < 2 → (∀ j, j < 16 → f j = nI (bit1 m j)) → ∃ v n f', 1 ≤ n ∧ n ≤ 16 ∧ (v = nI n ∨ v = -nI n) ∧ rX2_chainFrom_12 (N + d + 2) c 17 (nI t) (nI m) (nI g) (nI s) (nI (cnt m)) = some (v, c) ∧ rX9_chainOf_33 (N + d + 2) (wI u 66 f) 45 (nI t) (nI (cnt m)) (nI g) (nI s) = some (v, wI u 66 f') := by
  have seen : ∀ (d m g s : Nat) (f : Nat → Int32), m < 65536 → g < 8 → s < 2 → (∀ j, j < 16 → f j = nI (bit1 m j)) → bit1 m (2 * g + s) = 1 → ∃ v n f', 1 ≤ n ∧ n ≤ 16 ∧ (v = nI n ∨ v = -nI n) ∧ rX2_chainFrom_12 (N + d + 2) c 17 (nI t) (nI m) (nI g) (nI s) (nI (cnt m)) = some (v, c) ∧ rX9_chainOf_33 (N + d + 2) (wI u 66 f) 45 (nI t) (nI (cnt m)) (nI g) (nI s) = some (v, wI u 66 f') := by
    intro d m g s f hm hg hs hf z
    refine ⟨-nI (cnt m), cnt m, f, popF_ge z 16 (by omega), cnt_le m, Or.inr rfl, ?_, ?_⟩
    · rw [c_ch hc hA ht hm hg hs (cnt_le m), if_neg (by rw [z]; decide)]
    · rw [m_ch hu hB ht hg hs, if_neg (by rw [hf _ (by omega), z]; decide)]
  intro d
  induction d with
  | zero =>
    intro m g s f h1 hm hg hs hf
    rcases (by have := bit1_le m (2 * g + s); omega : bit1 m (2 * g + s) = 0 ∨ bit1 m (2 * g + s) = 1) with z | z
    · have := popF_lt (bit1_le m) z 16 (by omega)
      unfold cnt at h1
      omega
    · exact seen 0 m g s f hm hg hs hf z
  | succ d ih =>
    intro m g s f h1 hm hg hs hf
    rcases (by have := bit1_le m (2 * g + s); omega : bit1 m (2 * g + s) = 0 ∨ bit1 m (2 * g + s) = 1) with z | z
    · have e1 := cnt_or (show 2 * g + s < 16 by omega) z
      have hm' := or16 hm (show 2 * g + s < 16 by omega)
      have ec := c_ch hc hA (N := N + d + 2) ht hm hg hs (cnt_le m)
      rw [if_pos z] at ec
      have em := m_ch hu hB (f := f) (n := cnt m) (N := N + d + 2) ht hg hs
      rw [if_pos (by rw [hf _ (by omega), z]; rfl)] at em
      rw [← e1] at ec em
      rw [show N + (d + 1) + 2 = N + d + 2 + 1 by omega, ec, em]
      by_cases q : nxS A t g s = -1
      · rw [q]
        exact ⟨nI (cnt (m ||| 2 ^ (2 * g + s))), cnt (m ||| 2 ^ (2 * g + s)), _, by omega, cnt_le _, Or.inl rfl, c_chE (t := t) hm', m_chE⟩
      · have hq : nxS A t g s = A (2 * g + s) := by
          unfold nxS at q ⊢
          split
          · rename_i w; rw [if_pos w] at q; exact absurd rfl q
          · rfl
        have hrg := hr (2 * g + s) (by omega)
        rw [hq] at q ⊢
        have hrg2 : rg (A (2 * g + s)) 0 7 := by
          unfold rg at hrg ⊢
          refine ⟨?_, hrg.2⟩
          rcases (by omega : (A (2 * g + s)).toInt = -1 ∨ 0 ≤ (A (2 * g + s)).toInt) with w | w
          · exact absurd (Int32.toInt_inj.mp (w.trans (by decide))) q
          · exact w
        obtain ⟨g', hg', eg⟩ := rg_nI (M := 7) hrg2 (by decide)
        rw [eg]
        exact ih _ g' (1 - s) _ (by omega) hm' (by omega) (by omega) (fun j hj => by
          rw [bit_or]
          by_cases w : j = 2 * g + s
          · rw [w, pk_us, if_pos rfl]; rfl
          · rw [pk_un w, if_neg w, hf j hj])
    · exact seen (d + 1) m g s f hm hg hs hf z
def clr (f : Nat → Int32) (n : Nat) : Nat → Int32 := fun j => if j < n then 0 else f j
set_option maxRecDepth 100000 in
theorem clr_upd (f : Nat → Int32) (n : Nat) : upd (clr f n) n 0 = clr f (n + 1) := by
  funext j
  unfold clr
  by_cases c : j = n
  · subst c; rw [pk_us, if_pos (by omega)]
  · rw [pk_un c]
    by_cases d : j < n
    · rw [if_pos d, if_pos (by omega)]
    · rw [if_neg d, if_neg (by omega)]
set_option maxRecDepth 100000 in
theorem m_chI {u : Mm} (h : hSh u) {f : Nat → Int32} {x y z : Int32} {N : Nat} : ∀ (r k : Nat), k + r = 16 → rX9_chainOf_3 (N + r + 1) (wI u 66 (clr f k)) 45 x y z (nI k) = rX9_chainOf_33 hwF (wI u 66 (clr f 16)) 45 z 0 x y := by
  intro r
  induction r with
  | zero =>
    intro k hk
    have e : k = 16 := by omega
    subst e
    show bX9_chainOf_3 _ _ 45 x y z (nI 16) = _
    unfold bX9_chainOf_3
    rw [if_pos (by decide)]
  | succ r ih =>
    intro k hk
    have h1 : hSh (wI u 66 (clr f k)) := h
    show bX9_chainOf_3 (rX9_chainOf_3 (N + r + 1)) _ 45 x y z (nI k) = _
    unfold bX9_chainOf_3
    rw [if_neg (show ¬ (16 : Int32) ≤ nI k from nI_ge (b := 16) (by omega) (by decide)), oK_of (sh45 h1), rf45_41 h1, oNn_of, oA_k (sh66 h1) (by omega) (by decide), oZ0, oU_of, wI_s, clm (by omega), nI_1]
    show rX9_chainOf_3 _ (wI u 66 (upd (clr f k) k 0)) 45 x y z _ = _
    rw [clr_upd]
    exact ih (k + 1) (by omega)
set_option maxRecDepth 100000 in
theorem chain_joint {c u : Mm} (hc : hSh c) (hu : hSh u) {A : Nat → Int32} (hA : ∀ g s, g < 8 → s < 2 → mI c 5 (2 * g + s) = A (2 * g + s)) (hB : ∀ g s, g < 8 → s < 2 → mI u 47 (51 + 2 * g + s) = A (2 * g + s)) (hr : ∀ i, i < 16 → rg (A i) (-1) 7) {t g s : Nat} (ht : t < 256) (hg : g < 8) (hs : s < 2) (f : Nat → Int32) : ∃ v n f', 1 ≤ n ∧ n ≤ 16 ∧ (v = nI n ∨ v = -nI n) ∧ fX2_chainFrom c 17 (nI g) (nI s) (nI t) = some (v, c) ∧ fX9_chainOf (wI u 66 f) 45 (nI g) (nI s) (nI t) = some (v, wI u 66 f') := by
  obtain ⟨v, n, f', h1, h2, h3, h4, h5⟩ := ch_joint hc hu hA hB hr (N := 999982) ht 16 0 g s (clr f 16) (by decide) (by decide) hg hs (fun j hj => by
    unfold clr bit1
    rw [if_pos hj, Nat.zero_div]; rfl)
  refine ⟨v, n, f', h1, h2, h3, h4, ?_⟩
  have e := m_chI hu (f := f) (x := nI g) (y := nI s) (z := nI t) (N := 999983) 16 0 (by decide)
  have e0 : clr f 0 = f := by funext j; unfold clr; rw [if_neg (by omega)]
  rw [e0] at e
  exact e.trans h5
set_option maxRecDepth 100000 in
theorem answ {LR : Mm → Prop} {u : Mm} (h : Rel LR u) : (∀ g s, g < 8 → s < 2 → mI u 47 (51 + 2 * g + s) = mI u 5 (2 * g + s)) ∧ ∀ i, i < 16 → rg (mI u 5 i) (-1) 7 := by
  have a := fun g s (hg : g < 8) (hs : s < 2) => at_answers h.2.1 (k := g) (s := s) hg hs
  refine ⟨a, fun i hi => ?_⟩
  have q := h.2.1.2.1 (51 + i) (by omega)
  rw [(by decide +kernel : ∀ i, i < 16 → rlh (51 + i) = (-1, 7)) i hi] at q
  have e := a (i / 2) (i % 2) (by omega) (by omega)
  rw [show 51 + 2 * (i / 2) + i % 2 = 51 + i by omega, show 2 * (i / 2) + i % 2 = i by omega] at e
  rw [e] at q
  exact q
set_option maxRecDepth 100000 in
theorem pm_facts : ∀ n, n ≤ 16 → 1 ≤ n → iabs (nI n) = nI n ∧ iabs (-nI n) = nI n ∧ 0 ≤ nI n ∧ ¬ 0 ≤ -nI n ∧ ¬ nI n ≤ 0 ∧ -nI n ≤ 0 ∧ -nI n < 0 ∧ ¬ nI n < 0 := by decide +kernel
set_option maxRecDepth 100000 in
theorem s27 {LR : Mm → Prop} (hF : LRf LR) : hwS_27 (Rel LR) := by
  intro x y z u h
  have hS := h.1
  have hT : hSh (mT u) := hS
  obtain ⟨hB, hr⟩ := answ h
  by_cases c1 : 0 ≤ x ∧ x ≤ 7
  · by_cases c2 : 0 ≤ y ∧ y ≤ 1
    · by_cases c3 : 0 ≤ z ∧ z ≤ 1
      · obtain ⟨g, hg, rfl⟩ := nIof (n := 7) 7 (by decide) c1
        obtain ⟨s, hs, rfl⟩ := nIof (n := 1) 1 (by decide) c2
        obtain ⟨v, n, f', h1, h2, h3, h4, h5⟩ := chain_joint hS hT (A := mI u 5) (fun _ _ _ _ => rfl) hB hr (t := 0) (by decide) (show g < 8 by omega) (show s < 2 by omega) (mI (mT u) 66)
        rw [wI_id] at h5
        obtain ⟨f1, f2, f3, f4, f5, f6, f7, f8⟩ := pm_facts n h2 h1
        refine ⟨if z = 0 then iabs v else (if 0 ≤ v then 0 else 1), u, wI (mT u) 66 f', ?_, hR45_Rel hS, ?_, Rel_Scr hF (Rel_mT hF h) (Scr_wI rfl)⟩
        · show fX8_chain u 0 (nI g) (nI s) z = _
          unfold fX8_chain bX8_chain_57
          rw [c_isSign, oB_of, if_pos c1, if_neg (by decide), c_isSide, oB_of, if_pos c2, if_neg (by decide), c_within, oB_of, if_pos c3, if_neg (by decide), oK_of (sh0 hS), rf0_2 hS, oNn_of, oR_of (sh17 hS), show fX2_chainFrom u 17 (nI g) (nI s) 0 = _ from h4, oB_of, c_abs, oB_of]
          split
          · rfl
          · split <;> rfl
        · show fX9_chain u 45 (nI g) (nI s) z = _
          unfold fX9_chain bX9_chain_62
          rw [oK_of (sh45 hS), oT, m_isEight, oB_of, if_pos c1, if_neg (by decide), m_isSide, oB_of, if_pos c2, if_neg (by decide), m_in1, oB_of, if_pos c3, if_neg (by decide), oR_of (sh45 hT), show fX9_chainOf (mT u) 45 (nI g) (nI s) 0 = _ from h5, oB_of, m_size, oB_of]
          split
          · rfl
          · split <;> rfl
      · refine ⟨-1, u, mT u, ?_, hR45_Rel hS, ?_, Rel_mT hF h⟩
        · show fX8_chain u 0 x y z = _
          unfold fX8_chain
          rw [c_isSign, oB_of, if_pos c1, if_neg (by decide), c_isSide, oB_of, if_pos c2, if_neg (by decide), c_within, oB_of, if_neg c3, if_pos rfl]
        · show fX9_chain u 45 x y z = _
          unfold fX9_chain
          rw [oK_of (sh45 hS), oT, m_isEight, oB_of, if_pos c1, if_neg (by decide), m_isSide, oB_of, if_pos c2, if_neg (by decide), m_in1, oB_of, if_neg c3, if_pos rfl]
    · refine ⟨-1, u, mT u, ?_, hR45_Rel hS, ?_, Rel_mT hF h⟩
      · show fX8_chain u 0 x y z = _
        unfold fX8_chain
        rw [c_isSign, oB_of, if_pos c1, if_neg (by decide), c_isSide, oB_of, if_neg c2, if_pos rfl]
      · show fX9_chain u 45 x y z = _
        unfold fX9_chain
        rw [oK_of (sh45 hS), oT, m_isEight, oB_of, if_pos c1, if_neg (by decide), m_isSide, oB_of, if_neg c2, if_pos rfl]
  · refine ⟨-1, u, mT u, ?_, hR45_Rel hS, ?_, Rel_mT hF h⟩
    · show fX8_chain u 0 x y z = _
      unfold fX8_chain
      rw [c_isSign, oB_of, if_neg c1, if_pos rfl]
    · show fX9_chain u 45 x y z = _
      unfold fX9_chain
      rw [oK_of (sh45 hS), oT, m_isEight, oB_of, if_neg c1, if_pos rfl]
/-! stilled -/
set_option maxRecDepth 100000 in
theorem c_chain0 {c u : Mm} (hc : hSh c) (hu : hSh u) {A : Nat → Int32} (hA : ∀ g s, g < 8 → s < 2 → mI c 5 (2 * g + s) = A (2 * g + s)) (hB : ∀ g s, g < 8 → s < 2 → mI u 47 (51 + 2 * g + s) = A (2 * g + s)) (hr : ∀ i, i < 16 → rg (A i) (-1) 7) {t : Nat} (ht : t < 256) {N M : Nat} : ∀ (r g : Nat) (f : Nat → Int32), g + r = 8 → ∃ (q : Bool) (f' : Nat → Int32), rX2_allChainsEnd_2 (N + r + 1) c 17 (nI t) (nI g) = some (if q then 1 else 0, c) ∧ rX9_isStill_4 (M + r + 1) (wI u 66 f) 45 (nI t) 1 (nI g) = some (if q then 1 else 0, wI u 66 f') := by
  have no : ∀ (M' r g : Nat) (f : Nat → Int32), g + r = 8 → rX9_isStill_4 (M' + r + 1) (wI u 66 f) 45 (nI t) 0 (nI g) = some (0, wI u 66 f) := by
    intro M' r
    induction r with
    | zero =>
      intro g f hg
      show bX9_isStill_4 _ _ 45 (nI t) 0 (nI g) = _
      unfold bX9_isStill_4
      rw [if_pos (show (8 : Int32) ≤ nI g from nI_le (a := 8) (by omega) (by omega)), oZ0]
    | succ r ih =>
      intro g f hg
      show bX9_isStill_4 (rX9_isStill_4 (M' + r + 1)) _ 45 (nI t) 0 (nI g) = _
      unfold bX9_isStill_4 bX9_isStill_38 bX9_isStill_39
      rw [if_neg (show ¬ (8 : Int32) ≤ nI g from nI_ge (b := 8) (by omega) (by decide)), if_pos rfl, nI_1]
      exact ih (g + 1) f (by omega)
  intro r
  induction r with
  | zero =>
    intro g f hg
    refine ⟨true, f, ?_, ?_⟩
    · show bX2_allChainsEnd_2 _ c 17 (nI t) (nI g) = _
      unfold bX2_allChainsEnd_2
      rw [if_pos (show (8 : Int32) ≤ nI g from nI_le (a := 8) (by omega) (by omega)), oZ1]
      rfl
    · show bX9_isStill_4 _ _ 45 (nI t) 1 (nI g) = _
      unfold bX9_isStill_4
      rw [if_pos (show (8 : Int32) ≤ nI g from nI_le (a := 8) (by omega) (by omega)), oZ1]
      rfl
  | succ r ih =>
    intro g f hg
    obtain ⟨v0, n0, f0, a1, a2, a3, a4, a5⟩ := chain_joint hc hu hA hB hr ht (show g < 8 by omega) (show 0 < 2 by decide) f
    obtain ⟨v1, n1, f1, b1, b2, b3, b4, b5⟩ := chain_joint hc hu hA hB hr ht (show g < 8 by omega) (show 1 < 2 by decide) f0
    obtain ⟨p1, p2, p3, p4, p5, p6, p7, p8⟩ := pm_facts n0 a2 a1
    obtain ⟨q1, q2, q3, q4, q5, q6, q7, q8⟩ := pm_facts n1 b2 b1
    have hu0 : ∀ f, hSh (wI u 66 f) := fun _ => hu
    show ∃ (q : Bool) (f' : Nat → Int32), bX2_allChainsEnd_2 (rX2_allChainsEnd_2 (N + r + 1)) c 17 (nI t) (nI g) = some (if q then 1 else 0, c) ∧ bX9_isStill_4 (rX9_isStill_4 (M + r + 1)) (wI u 66 f) 45 (nI t) 1 (nI g) = some (if q then 1 else 0, wI u 66 f')
    unfold bX2_allChainsEnd_2 bX9_isStill_4 bX9_isStill_38 bX9_isStill_39
    rw [if_neg (show ¬ (8 : Int32) ≤ nI g from nI_ge (b := 8) (by omega) (by decide)), if_neg (show ¬ (8 : Int32) ≤ nI g from nI_ge (b := 8) (by omega) (by decide)), if_neg (show ¬ (1 : Int32) = 0 by decide), oR_of (sh17 hc), show fX2_chainFrom c 17 (nI g) 0 (nI t) = _ from a4, oB_of, oR_of (sh45 (hu0 f)), show fX9_chainOf (wI u 66 f) 45 (nI g) 0 (nI t) = _ from a5, oB_of, nI_1]
    rcases a3 with rfl | rfl
    · rw [if_neg p8, if_neg p5, oR_of (sh17 hc), show fX2_chainFrom c 17 (nI g) 1 (nI t) = _ from b4, oB_of, oR_of (sh45 (hu0 f0)), show fX9_chainOf (wI u 66 f0) 45 (nI g) 1 (nI t) = _ from b5, oB_of]
      rcases b3 with rfl | rfl
      · rw [if_pos q3, if_neg q5]
        exact ih (g + 1) f1 (by omega)
      · rw [if_neg q4, if_pos q6, oZ0]
        exact ⟨false, f1, rfl, no M r (g + 1) f1 (by omega)⟩
    · rw [if_pos p7, if_pos p6, oZ0]
      exact ⟨false, f0, rfl, no M r (g + 1) f0 (by omega)⟩
set_option maxRecDepth 100000 in
theorem still_joint {c u : Mm} (hc : hSh c) (hu : hSh u) {A : Nat → Int32} (hA : ∀ g s, g < 8 → s < 2 → mI c 5 (2 * g + s) = A (2 * g + s)) (hB : ∀ g s, g < 8 → s < 2 → mI u 47 (51 + 2 * g + s) = A (2 * g + s)) (hr : ∀ i, i < 16 → rg (A i) (-1) 7) {t : Nat} (ht : t < 256) (f : Nat → Int32) : ∃ (q : Bool) (f' : Nat → Int32), fX2_allChainsEnd c 17 (nI t) = some (if q then 1 else 0, c) ∧ fX9_isStill (wI u 66 f) 45 (nI t) = some (if q then 1 else 0, wI u 66 f') := c_chain0 hc hu hA hB hr ht (N := 999991) (M := 999991) 8 0 f (by decide)
set_option maxRecDepth 100000 in
theorem c_255 {c : Mm} (h : hSh c) {g s : Nat} (hg : g < 8) (hs : s < 2) : fX2_chainFrom c 17 (nI g) (nI s) (nI 255) = some (nI 1, c) := by
  have e := c_ch h (A := mI c 5) (fun _ _ _ _ => rfl) (t := 255) (m := 0) (g := g) (s := s) (n := 0) (N := 999999) (by decide) (by decide) hg hs (by decide)
  have z : bit1 0 (2 * g + s) = 0 := by unfold bit1; rw [Nat.zero_div]
  rw [if_pos z] at e
  have q : nxS (mI c 5) 255 g s = -1 := by
    unfold nxS
    exact if_pos ((by decide : ∀ g, g < 8 → bitN 255 g = 1) g hg)
  rw [q] at e
  have e2 := cnt_or (m := 0) (show 2 * g + s < 16 by omega) z
  have e3 := c_chE (c := c) (t := 0) (N := 999998) (or16 (m := 0) (by decide) (show 2 * g + s < 16 by omega)) (x := nI (1 - s)) (y := nI (0 + 1)) (z := nI 255)
  rw [e2, show cnt 0 + 1 = 1 from rfl] at e3
  exact e.trans e3
set_option maxRecDepth 100000 in
theorem still_255 {c : Mm} (h : hSh c) : fX2_allChainsEnd c 17 (nI 255) = some (1, c) := by
  have st : ∀ (N r g : Nat), g + r = 8 → rX2_allChainsEnd_2 (N + r + 1) c 17 (nI 255) (nI g) = some (1, c) := by
    intro N r
    induction r with
    | zero =>
      intro g hg
      show bX2_allChainsEnd_2 _ c 17 (nI 255) (nI g) = _
      unfold bX2_allChainsEnd_2
      rw [if_pos (show (8 : Int32) ≤ nI g from nI_le (a := 8) (by omega) (by omega)), oZ1]
    | succ r ih =>
      intro g hg
      show bX2_allChainsEnd_2 (rX2_allChainsEnd_2 (N + r + 1)) c 17 (nI 255) (nI g) = _
      unfold bX2_allChainsEnd_2
      rw [if_neg (show ¬ (8 : Int32) ≤ nI g from nI_ge (b := 8) (by omega) (by decide)), oR_of (sh17 h), show fX2_chainFrom c 17 (nI g) 0 (nI 255) = _ from c_255 (s := 0) h (by omega) (by decide), oB_of, if_neg (by decide), oR_of (sh17 h), show fX2_chainFrom c 17 (nI g) 1 (nI 255) = _ from c_255 (s := 1) h (by omega) (by decide), oB_of, if_pos (by decide), nI_1]
      exact ih (g + 1) (by omega)
  exact st 999991 8 0 (by decide)
set_option maxRecDepth 100000 in
theorem ss_joint {c u : Mm} (hc : hSh c) (hu : hSh u) {A : Nat → Int32} (hA : ∀ g s, g < 8 → s < 2 → mI c 5 (2 * g + s) = A (2 * g + s)) (hB : ∀ g s, g < 8 → s < 2 → mI u 47 (51 + 2 * g + s) = A (2 * g + s)) (hr : ∀ i, i < 16 → rg (A i) (-1) 7) {N M : Nat} {x : Int32} : ∀ (r k : Nat) (b : Option Nat) (f : Nat → Int32), k + r = 256 → bok b → ∃ (b' : Option Nat) (f' : Nat → Int32), bok b' ∧ (r ≠ 0 ∨ b.isSome = true → b'.isSome = true) ∧ rX2_signsToStill_4 (N + r + 1) c 17 (bi b) (nI k) = some (bi b', c) ∧ rX9_stilled_26 (M + r + 1) (wI u 66 f) 45 x (fewI b) (bi b) (nI k) = some (if x = 0 then fewI b' else bi b', wI u 66 f') := by
  intro r
  induction r with
  | zero =>
    intro k b f hk hb
    refine ⟨b, f, hb, fun q => q.elim (fun q => absurd rfl q) id, ?_, ?_⟩
    · show bX2_signsToStill_4 _ c 17 (bi b) (nI k) = _
      unfold bX2_signsToStill_4
      rw [if_pos (show (256 : Int32) ≤ nI k from nI_le (a := 256) (by omega) (by omega))]
    · show bX9_stilled_26 _ _ 45 x (fewI b) (bi b) (nI k) = _
      unfold bX9_stilled_26 bX9_stilled_101
      rw [if_pos (show (256 : Int32) ≤ nI k from nI_le (a := 256) (by omega) (by omega))]
      split <;> rfl
  | succ r ih =>
    intro k b f hk hb
    have hk' : bok (some k) := fun x hx => by cases hx; omega
    have hu0 : ∀ f, hSh (wI u 66 f) := fun _ => hu
    show ∃ (b' : Option Nat) (f' : Nat → Int32), bok b' ∧ _ ∧ bX2_signsToStill_4 (rX2_signsToStill_4 (N + r + 1)) c 17 (bi b) (nI k) = some (bi b', c) ∧ bX9_stilled_26 (rX9_stilled_26 (M + r + 1)) (wI u 66 f) 45 x (fewI b) (bi b) (nI k) = some (if x = 0 then fewI b' else bi b', wI u 66 f')
    unfold bX2_signsToStill_4 bX2_signsToStill_29 bX9_stilled_26 bX9_stilled_56 bX9_stilled_57 bX9_stilled_70 bX9_stilled_85
    rw [if_neg (show ¬ (256 : Int32) ≤ nI k from nI_ge (b := 256) (by omega) (by decide)), if_neg (show ¬ (256 : Int32) ≤ nI k from nI_ge (b := 256) (by omega) (by decide)), c_isFewer (by omega) hb, oB_of, m_ones (by omega), oB_of, nI_1]
    cases hf : fwB k b with
    | false =>
      have hbs : b.isSome = true := by
        cases b with
        | none => cases hf
        | some b => rfl
      obtain ⟨b', f', i1, i2, i3, i4⟩ := ih (k + 1) b f (by omega) hb
      refine ⟨b', f', i1, fun _ => i2 (Or.inr hbs), (if_pos rfl).trans i3, ?_⟩
      rw [if_pos ((few_iff hb).mpr hf), if_pos rfl, if_pos rfl]
      exact i4
    | true =>
      obtain ⟨q, f0, j1, j2⟩ := still_joint hc hu hA hB hr (show k < 256 by omega) f
      rw [if_neg (show ¬ (if true = true then (1 : Int32) else 0) = 0 by decide), oR_of (sh17 hc), j1, oB_of, if_neg (show ¬ fewI b ≤ nI (pc k) from fun z => by rw [(few_iff hb).mp z] at hf; cases hf), oR_of (sh45 (hu0 f)), j2, oB_of]
      cases q with
      | false =>
        obtain ⟨b', f', i1, i2, i3, i4⟩ := ih (k + 1) b f0 (by omega) hb
        have hr0 : r ≠ 0 := by
          intro z
          have : k = 255 := by omega
          subst this
          rw [still_255 hc] at j1
          cases j1
        refine ⟨b', f', i1, fun _ => i2 (Or.inl hr0), (if_pos rfl).trans i3, ?_⟩
        refine (if_pos rfl).trans ?_
        rw [if_pos rfl, if_pos rfl]
        exact i4
      | true =>
        obtain ⟨b', f', i1, i2, i3, i4⟩ := ih (k + 1) (some k) f0 (by omega) hk'
        refine ⟨b', f', i1, fun _ => i2 (Or.inr rfl), (if_neg (by decide)).trans i3, ?_⟩
        refine (if_neg (by decide)).trans ?_
        rw [if_neg (by decide), if_neg (by decide), m_ones (by omega), oB_of]
        exact i4
set_option maxRecDepth 100000 in
theorem s28 {LR : Mm → Prop} (hF : LRf LR) : hwS_28 (Rel LR) := by
  intro x u h
  have hS := h.1
  have hT : hSh (mT u) := hS
  obtain ⟨hB, hr⟩ := answ h
  by_cases c : 0 ≤ x ∧ x ≤ 1
  · obtain ⟨b', f', i1, i2, i3, i4⟩ := ss_joint hS hT (A := mI u 5) (fun _ _ _ _ => rfl) hB hr (N := 999743) (M := 999743) (x := x) 256 0 none (mI (mT u) 66) (by decide) (fun x hx => by cases hx)
    rw [wI_id] at i4
    have hq := i2 (Or.inl (by decide))
    refine ⟨if x = 0 then fewI b' else bi b', u, wI (mT u) 66 f', ?_, hR45_Rel hS, ?_, Rel_Scr hF (Rel_mT hF h) (Scr_wI rfl)⟩
    · show fX8_stilled u 0 x = _
      unfold fX8_stilled
      rw [c_within, oB_of, if_pos c, if_neg (by decide), oK_of (sh0 hS), rf0_2 hS, oNn_of, oR_of (sh17 hS), show fX2_signsToStill u 17 = _ from i3, oB_of, c_count i1, oB_of]
      cases b' with
      | none => cases hq
      | some b => rfl
    · show fX9_stilled u 45 x = _
      unfold fX9_stilled
      rw [oK_of (sh45 hS), oT, m_in1, oB_of, if_pos c, if_neg (by decide)]
      exact i4
  · refine ⟨-1, u, mT u, ?_, hR45_Rel hS, ?_, Rel_mT hF h⟩
    · show fX8_stilled u 0 x = _
      unfold fX8_stilled
      rw [c_within, oB_of, if_neg c, if_pos rfl]
    · show fX9_stilled u 45 x = _
      unfold fX9_stilled
      rw [oK_of (sh45 hS), oT, m_in1, oB_of, if_neg c, if_pos rfl]
