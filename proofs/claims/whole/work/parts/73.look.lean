/-! ===== the row's numbers in the book; level, holds, way ===== -/
set_option maxRecDepth 100000 in
theorem Rbk_at {bk : Nat → Nat → Int32} {row : Nat → Int32} (h : Rbk bk row) {p j q : Nat} (hp : p < 127) (hl : loc p = (j, q)) : row p = bk j q := by
  have e := h.1 p hp
  unfold cls at e
  rw [hl] at e
  exact e
section
variable {bk : Nat → Nat → Int32} {row : Nat → Int32} {s k : Nat}
set_option maxRecDepth 100000 in
theorem at_line (h : Rbk bk row) (hk : k < 8) : row (7 + k) = bk 2 k := Rbk_at h (by omega) ((by decide +kernel : ∀ k, k < 8 → loc (7 + k) = (2, k)) k hk)
set_option maxRecDepth 100000 in
theorem at_men (h : Rbk bk row) (hs : s < 2) (hk : k < 8) : row (15 + 8 * s + k) = bk 2 (8 + 8 * s + k) := Rbk_at h (by omega) ((by decide +kernel : ∀ s, s < 2 → ∀ k, k < 8 → loc (15 + 8 * s + k) = (2, 8 + 8 * s + k)) s hs k hk)
set_option maxRecDepth 100000 in
theorem at_supply (h : Rbk bk row) (hs : s < 2) : row (31 + s) = bk 2 (24 + s) := Rbk_at h (by omega) ((by decide +kernel : ∀ s, s < 2 → loc (31 + s) = (2, 24 + s)) s hs)
set_option maxRecDepth 100000 in
theorem at_temper (h : Rbk bk row) (hs : s < 2) : row (33 + s) = bk 2 (26 + s) := Rbk_at h (by omega) ((by decide +kernel : ∀ s, s < 2 → loc (33 + s) = (2, 26 + s)) s hs)
set_option maxRecDepth 100000 in
theorem at_day (h : Rbk bk row) : row 4 = bk 2 28 := Rbk_at h (by omega) rfl
set_option maxRecDepth 100000 in
theorem at_reads (h : Rbk bk row) (hk : k < 8) (hs : s < 2) : row (35 + 2 * k + s) = bk 3 (2 * k + s) := Rbk_at h (by omega) ((by decide +kernel : ∀ k, k < 8 → ∀ s, s < 2 → loc (35 + 2 * k + s) = (3, 2 * k + s)) k hk s hs)
set_option maxRecDepth 100000 in
theorem at_answers (h : Rbk bk row) (hk : k < 8) (hs : s < 2) : row (51 + 2 * k + s) = bk 4 (2 * k + s) := Rbk_at h (by omega) ((by decide +kernel : ∀ k, k < 8 → ∀ s, s < 2 → loc (51 + 2 * k + s) = (4, 2 * k + s)) k hk s hs)
set_option maxRecDepth 100000 in
theorem at_worth (h : Rbk bk row) (hk : k < 8) (hs : s < 2) : row (67 + 2 * k + s) = bk 5 (2 * k + s) := Rbk_at h (by omega) ((by decide +kernel : ∀ k, k < 8 → ∀ s, s < 2 → loc (67 + 2 * k + s) = (5, 2 * k + s)) k hk s hs)
set_option maxRecDepth 100000 in
theorem at_pauses (h : Rbk bk row) (hk : k < 8) (hs : s < 2) : row (83 + 2 * k + s) = bk 6 (2 * k + s) := Rbk_at h (by omega) ((by decide +kernel : ∀ k, k < 8 → ∀ s, s < 2 → loc (83 + 2 * k + s) = (6, 2 * k + s)) k hk s hs)
set_option maxRecDepth 100000 in
theorem at_heard (h : Rbk bk row) (hk : k < 8) : row (99 + 2 * k) = bk 7 k := Rbk_at h (by omega) ((by decide +kernel : ∀ k, k < 8 → loc (99 + 2 * k) = (7, k)) k hk)
set_option maxRecDepth 100000 in
theorem at_heard1 (h : Rbk bk row) (hk : k < 8) : row (100 + 2 * k) = bk 8 k := Rbk_at h (by omega) ((by decide +kernel : ∀ k, k < 8 → loc (100 + 2 * k) = (8, k)) k hk)
set_option maxRecDepth 100000 in
theorem at_told (h : Rbk bk row) (hk : k < 6) : row (115 + 2 * k) = bk 9 k := Rbk_at h (by omega) ((by decide +kernel : ∀ k, k < 6 → loc (115 + 2 * k) = (9, k)) k hk)
set_option maxRecDepth 100000 in
theorem at_told1 (h : Rbk bk row) (hk : k < 6) : row (116 + 2 * k) = bk 10 k := Rbk_at h (by omega) ((by decide +kernel : ∀ k, k < 6 → loc (116 + 2 * k) = (10, k)) k hk)
end
set_option maxRecDepth 100000 in
theorem sum8_congr {f g : Nat → Int32} (h : ∀ k, k < 8 → f k = g k) : sum8 f = sum8 g := by
  unfold sum8
  rw [h 0 (by decide), h 1 (by decide), h 2 (by decide), h 3 (by decide), h 4 (by decide), h 5 (by decide), h 6 (by decide), h 7 (by decide)]
/-! level -/
def iabs (x : Int32) : Int32 := if 0 ≤ x then x else -x
set_option maxRecDepth 100000 in
theorem c_abs {u : Mm} {x : Int32} : fJ9_abs_0f7a4 u x = some (iabs x, u) := by
  unfold fJ9_abs_0f7a4 bJ9_abs_0f7a4_10 iabs
  by_cases c : 0 ≤ x
  · rw [if_pos c, if_pos c]
  · rw [if_neg c, if_neg c]
set_option maxRecDepth 100000 in
theorem m_size {u : Mm} {x : Int32} : fX9_sizeOf u x = some (iabs x, u) := by
  unfold fX9_sizeOf bX9_sizeOf_10 iabs
  by_cases c : 0 ≤ x
  · rw [if_pos c, if_pos c]
  · rw [if_neg c, if_neg c]
def lvT (all : Int32) (k : Nat) (t g : Int32) : Int32 := t + (g - (all / 8 + (if all - all / 8 * 8 ≤ nI k then 0 else 1)))
def lvG (g : Nat → Int32) (all : Int32) : Nat → Nat → Int32 → Int32 → Int32
  | 0, _, x, _ => x
  | r + 1, k, x, t => lvG g all r (k + 1) (x + iabs (lvT all k t (g k))) (lvT all k t (g k))
set_option maxRecDepth 100000 in
theorem c_lev {u : Mm} (h : hSh u) {s k : Nat} (hs : s < 2) (hk : k < 8) {n : Nat} {all x t : Int32} : rX2_menToLevel_20 (n + 1) u 17 (nI s) all x t (nI k) = rX2_menToLevel_20 n u 17 (nI s) all (x + iabs (lvT all k t (mI u 3 (8 + 8 * s + k)))) (lvT all k t (mI u 3 (8 + 8 * s + k))) (nI (k + 1)) := by
  show bX2_menToLevel_20 (rX2_menToLevel_20 n) u 17 (nI s) all x t (nI k) = _
  unfold bX2_menToLevel_20 bX2_menToLevel_45 lvT
  rw [if_neg (show ¬ (8 : Int32) ≤ nI k from nI_ge (b := 8) hk (by decide)), if_pos (by decide), if_pos (by decide)]
  by_cases c : all - all / 8 * 8 ≤ nI k
  · rw [if_pos c, if_pos c, oI_of, oK_of (sh17 h), rf17_0 h, oNn_of, oK_of (sh1 h), rf1_0 h, oNn_of, oR_of (sh2 h), c_menAt (Fr2 h) hs hk, oB_of, oI_of, c_abs, oB_of, oI_of, nI_1]
  · rw [if_neg c, if_neg c, oI_of, oK_of (sh17 h), rf17_0 h, oNn_of, oK_of (sh1 h), rf1_0 h, oNn_of, oR_of (sh2 h), c_menAt (Fr2 h) hs hk, oB_of, oI_of, c_abs, oB_of, oI_of, nI_1]
set_option maxRecDepth 100000 in
theorem m_lev {u : Mm} (h : hSh u) {s k : Nat} (hs : s < 2) (hk : k < 8) {n : Nat} {all x t : Int32} : rX9_level_28 (n + 1) u 45 (nI s) all t x (nI k) = rX9_level_28 n u 45 (nI s) all (lvT all k t (mI u 47 (15 + 8 * s + k))) (x + iabs (lvT all k t (mI u 47 (15 + 8 * s + k)))) (nI (k + 1)) := by
  show bX9_level_28 (rX9_level_28 n) u 45 (nI s) all t x (nI k) = _
  unfold bX9_level_28 bX9_level_62 lvT
  have e : ∀ g q b : Int32, g - q - b = g - (q + b) := fun g q b => by rw [Int32.sub_sub]
  rw [if_neg (show ¬ (8 : Int32) ≤ nI k from nI_ge (b := 8) hk (by decide)), oR_of (sh45 h), m_menOf h hs hk, oB_of, if_pos (by decide), if_pos (by decide)]
  by_cases c : all - all / 8 * 8 ≤ nI k
  · rw [if_pos c, if_pos c, oI_of, m_size, oB_of, oI_of, nI_1, e]
  · rw [if_neg c, if_neg c, oI_of, m_size, oB_of, oI_of, nI_1, e]
set_option maxRecDepth 100000 in
theorem s30 {LR : Mm → Prop} (hF : LRf LR) : hwS_30 (Rel LR) := by
  intro x u h
  have hS := h.1
  have hT : hSh (mT u) := hS
  by_cases c : 0 ≤ x ∧ x ≤ 1
  · obtain ⟨s, hs, rfl⟩ := nIof (n := 1) 1 (by decide) c
    have hs' : s < 2 := by omega
    have eg : ∀ k, k < 8 → mI (mT u) 47 (15 + 8 * s + k) = mI u 3 (8 + 8 * s + k) := fun k hk => at_men h.2.1 hs' hk
    have es : sum8 (fun k => mI (mT u) 47 (15 + 8 * s + k)) = sum8 (fun k => mI u 3 (8 + 8 * s + k)) := sum8_congr eg
    have hc : ∃ r, fX8_level u 0 (nI s) = some (r, u) ∧ fX9_level u 45 (nI s) = some (r, mT u) := by
      refine ⟨lvG (fun k => mI u 3 (8 + 8 * s + k)) (sum8 (fun k => mI u 3 (8 + 8 * s + k))) 8 0 0 0, ?_, ?_⟩
      · unfold fX8_level bX8_level_19
        rw [c_isSide, oB_of, if_pos c, if_neg (by decide), oK_of (sh0 hS), rf0_2 hS, oNn_of, oR_of (sh17 hS)]
        unfold fX2_menToLevel
        rw [oK_of (sh17 hS), rf17_0 hS, oNn_of, oK_of (sh1 hS), rf1_0 hS, oNn_of, oR_of (sh2 hS), c_menOf (Fr2 hS) hs', oB_of]
        show oB (rX2_menToLevel_20 (999991 + 9) u 17 (nI s) _ 0 0 (nI 0)) _ = _
        rw [c_lev hS hs' (by decide), c_lev hS hs' (by decide), c_lev hS hs' (by decide), c_lev hS hs' (by decide), c_lev hS hs' (by decide), c_lev hS hs' (by decide), c_lev hS hs' (by decide), c_lev hS hs' (by decide)]
        rfl
      · unfold fX9_level
        rw [oK_of (sh45 hS), oT, m_isSide, oB_of, if_pos c, if_neg (by decide), oR_of (sh45 hT), m_allMen hT hs', oB_of, es]
        show (rX9_level_28 (999991 + 9) (mT u) 45 (nI s) _ 0 0 (nI 0)) = _
        rw [m_lev hT hs' (by decide), m_lev hT hs' (by decide), m_lev hT hs' (by decide), m_lev hT hs' (by decide), m_lev hT hs' (by decide), m_lev hT hs' (by decide), m_lev hT hs' (by decide), m_lev hT hs' (by decide)]
        rw [eg 0 (by decide), eg 1 (by decide), eg 2 (by decide), eg 3 (by decide), eg 4 (by decide), eg 5 (by decide), eg 6 (by decide), eg 7 (by decide)]
        rfl
    obtain ⟨r, a, b⟩ := hc
    exact ⟨r, u, mT u, a, hR45_Rel hS, b, Rel_mT hF h⟩
  · refine ⟨-1, u, mT u, ?_, hR45_Rel hS, ?_, Rel_mT hF h⟩
    · show fX8_level u 0 x = _
      unfold fX8_level bX8_level_19
      rw [c_isSide, oB_of, if_neg c, if_pos rfl]
    · show fX9_level u 45 x = _
      unfold fX9_level
      rw [oK_of (sh45 hS), oT, m_isSide, oB_of, if_neg c, if_pos rfl]
/-! holds -/
def hdT (a b : Int32) (y : Int64) : Int64 := (y * (Int32.toInt64 ((100 : Int32) - a)) / 100) * (Int32.toInt64 ((100 : Int32) - b)) / 100
def hdN (a b : Int32) : Nat → Int64 → Int64
  | 0, y => y
  | n + 1, y => hdN a b n (hdT a b y)
set_option maxRecDepth 100000 in
theorem c_hold {u : Mm} (h : hSh u) {n : Nat} (hn : n ≤ 60) {N : Nat} : ∀ (r k : Nat) (y : Int64), k + r = n → rX2_chanceToHold_7 (N + r + 1) u 17 (nI n) y (nI k) = some (hdN (mI u 3 26) (mI u 3 27) r y, u) := by
  intro r
  induction r with
  | zero =>
    intro k y hk
    show bX2_chanceToHold_7 _ u 17 (nI n) y (nI k) = _
    unfold bX2_chanceToHold_7
    rw [if_pos (nI_le (by omega) (by omega))]
    rfl
  | succ r ih =>
    intro k y hk
    show bX2_chanceToHold_7 (rX2_chanceToHold_7 (N + r + 1)) u 17 (nI n) y (nI k) = _
    unfold bX2_chanceToHold_7
    rw [if_neg (nI_ge (by omega) (by omega)), oK_of (sh17 h), rf17_0 h, oNn_of, oK_of (sh1 h), rf1_0 h, oNn_of, oR_of (sh2 h), show fX1_temperOf u 2 0 = some (mI u 3 26, u) from c_temperOf (s := 0) (Fr2 h) (by decide), oB_of, if_pos (by decide), oJ_of, oK_of (sh17 h), rf17_0 h, oNn_of, oK_of (sh1 h), rf1_0 h, oNn_of, oR_of (sh2 h), show fX1_temperOf u 2 1 = some (mI u 3 27, u) from c_temperOf (s := 1) (Fr2 h) (by decide), oB_of, if_pos (by decide), oJ_of, nI_1]
    exact ih (k + 1) _ (by omega)
set_option maxRecDepth 100000 in
theorem m_hold {u : Mm} (h : hSh u) {n : Nat} (hn : n ≤ 60) {N : Nat} : ∀ (r k : Nat) (y : Int64), k + r = n → rX9_holds_28 (N + r + 1) u 45 (nI n) y (nI k) = some (hdN (mI u 47 33) (mI u 47 34) r y, u) := by
  intro r
  induction r with
  | zero =>
    intro k y hk
    show bX9_holds_28 _ u 45 (nI n) y (nI k) = _
    unfold bX9_holds_28
    rw [if_pos (nI_le (by omega) (by omega))]
    rfl
  | succ r ih =>
    intro k y hk
    show bX9_holds_28 (rX9_holds_28 (N + r + 1)) u 45 (nI n) y (nI k) = _
    unfold bX9_holds_28
    rw [if_neg (nI_ge (by omega) (by omega)), show (33 : Int32) = nI 33 from rfl, show (34 : Int32) = nI 34 from rfl, m_rowAt h (by decide), if_pos (by decide), oJ_of, m_rowAt h (by decide), if_pos (by decide), oJ_of, nI_1]
    exact ih (k + 1) _ (by omega)
set_option maxRecDepth 100000 in
theorem s33 {LR : Mm → Prop} (hF : LRf LR) : hwS_33 (Rel LR) := by
  intro x u h
  have hS := h.1
  have hT : hSh (mT u) := hS
  by_cases c : 0 ≤ x ∧ x ≤ 60
  · obtain ⟨n, hn, rfl⟩ := nIof (n := 60) 60 (by decide) c
    refine ⟨hdN (mI u 3 26) (mI u 3 27) n 1000000000000, u, mT u, ?_, hR45_Rel hS, ?_, Rel_mT hF h⟩
    · show fX8_holds u 0 (nI n) = _
      unfold fX8_holds bX8_holds_24 fX2_chanceToHold
      rw [c_within, oB_of, if_pos c, if_neg (by decide), oK_of (sh0 hS), rf0_2 hS, oNn_of, oR_of (sh17 hS)]
      rw [show hwF = (999999 - n) + n + 1 by unfold hwF; omega, show (0 : Int32) = nI 0 from rfl, c_hold hS hn n 0 _ (by omega), oB_of]
    · show fX9_holds u 45 (nI n) = _
      unfold fX9_holds
      rw [oK_of (sh45 hS), oT, m_inI _ _ 0 60 (l := 0) (h := 60) rfl rfl, oB_of, if_pos c, if_neg (by decide)]
      rw [show hwF = (999999 - n) + n + 1 by unfold hwF; omega, show (0 : Int32) = nI 0 from rfl, m_hold hT hn n 0 _ (by omega)]
      rw [show mI (mT u) 47 33 = mI u 3 26 from at_temper (s := 0) h.2.1 (by decide), show mI (mT u) 47 34 = mI u 3 27 from at_temper (s := 1) h.2.1 (by decide)]
  · refine ⟨-1, u, mT u, ?_, hR45_Rel hS, ?_, Rel_mT hF h⟩
    · show fX8_holds u 0 x = _
      unfold fX8_holds bX8_holds_24
      rw [c_within, oB_of, if_neg c, if_pos rfl]
    · show fX9_holds u 45 x = _
      unfold fX9_holds
      rw [oK_of (sh45 hS), oT, m_inI _ _ 0 60 (l := 0) (h := 60) rfl rfl, oB_of, if_neg c, if_pos rfl]
/-! way -/
def nxt (z c : Nat) : Nat := (c + z) % 8
def fgo (g : Nat → Int32) (z : Nat) : Nat → Nat → Int32 → Int32
  | 0, _, a => a
  | d + 1, c, a => fgo g z d (nxt z c) (a + g (nxt z c))
set_option maxRecDepth 100000 in
theorem fmod8 (z c : Nat) (hc : c < 8) (y : Int32) (hz : z = 1 ∧ y = 1 ∨ z = 7 ∧ y = -1) (u : Mm) : fJ9_floorMod_7cf53 u (nI c + y) 8 = some (nI (nxt z c), u) := by
  have k : ∀ c, c < 8 → (if 0 ≤ ((nI c + 1) ^^^ (8 : Int32) : Int32) then (nI c + 1) - (nI c + 1) / 8 * 8 else if (nI c + 1) - (nI c + 1) / 8 * 8 = 0 then (nI c + 1) - (nI c + 1) / 8 * 8 else (nI c + 1) - (nI c + 1) / 8 * 8 + 8) = nI (nxt 1 c) := by decide +kernel
  have k2 : ∀ c, c < 8 → (if 0 ≤ ((nI c + -1) ^^^ (8 : Int32) : Int32) then (nI c + -1) - (nI c + -1) / 8 * 8 else if (nI c + -1) - (nI c + -1) / 8 * 8 = 0 then (nI c + -1) - (nI c + -1) / 8 * 8 else (nI c + -1) - (nI c + -1) / 8 * 8 + 8) = nI (nxt 7 c) := by decide +kernel
  unfold fJ9_floorMod_7cf53
  rw [if_pos (by decide), oI_of]
  rcases hz with ⟨rfl, rfl⟩ | ⟨rfl, rfl⟩
  · rw [← k c hc]; split
    · rfl
    · split <;> rfl
  · rw [← k2 c hc]; split
    · rfl
    · split <;> rfl
set_option maxRecDepth 100000 in
theorem rmod8 (z c : Nat) (hc : c < 8) (y : Int32) (hz : z = 1 ∧ y = 1 ∨ z = 7 ∧ y = -1) : ((nI c + y) + 8) - ((nI c + y) + 8) / 8 * 8 = nI (nxt z c) := by
  rcases hz with ⟨rfl, rfl⟩ | ⟨rfl, rfl⟩
  · exact (by decide +kernel : ∀ c, c < 8 → ((nI c + 1) + 8) - ((nI c + 1) + 8) / 8 * 8 = nI (nxt 1 c)) c hc
  · exact (by decide +kernel : ∀ c, c < 8 → ((nI c + -1) + 8) - ((nI c + -1) + 8) / 8 * 8 = nI (nxt 7 c)) c hc
set_option maxRecDepth 100000 in
theorem nxt_lt (z c : Nat) : nxt z c < 8 := Nat.mod_lt _ (by decide)
set_option maxRecDepth 100000 in
theorem c_foes {u : Mm} (h : hSh u) {s w z : Nat} (hs : s < 2) (hw : w < 8) {y : Int32} (hz : z = 1 ∧ y = 1 ∨ z = 7 ∧ y = -1) {N : Nat} : ∀ (d c n : Nat) (a : Int32), c < 8 → d + n ≤ 7 → (c + d * z) % 8 = w → rX2_foesOnWay_9 (N + d + 1) u 17 (nI s) (nI w) y a (nI c) (nI n) = some (fgo (fun k => mI u 3 (8 + 8 * (1 - s) + k)) z d c a, u) := by
  intro d
  induction d with
  | zero =>
    intro c n a hc hn hd
    have e : c = w := by omega
    subst e
    show bX2_foesOnWay_9 _ u 17 (nI s) (nI c) y a (nI c) (nI n) = _
    unfold bX2_foesOnWay_9
    rw [if_neg (show ¬ (8 : Int32) ≤ nI n from nI_ge (b := 8) (by omega) (by decide)), if_pos rfl]
    rfl
  | succ d ih =>
    intro c n a hc hn hd
    have hne : ¬ nI c = nI w := by
      rw [nI_eq (by omega) (by omega)]
      intro q
      rcases hz with ⟨rfl, -⟩ | ⟨rfl, -⟩ <;> omega
    show bX2_foesOnWay_9 (rX2_foesOnWay_9 (N + d + 1)) u 17 (nI s) (nI w) y a (nI c) (nI n) = _
    unfold bX2_foesOnWay_9
    rw [if_neg (show ¬ (8 : Int32) ≤ nI n from nI_ge (b := 8) (by omega) (by decide)), if_neg hne, fmod8 z c hc y hz, oB_of, oK_of (sh17 h), rf17_0 h, oNn_of, oK_of (sh1 h), rf1_0 h, oNn_of, oR_of (sh2 h), i1s hs, c_menAt (Fr2 h) (by omega) (nxt_lt z c), oB_of, oI_of, nI_1]
    exact ih (nxt z c) (n + 1) _ (nxt_lt z c) (by omega) (by unfold nxt; rcases hz with ⟨rfl, -⟩ | ⟨rfl, -⟩ <;> omega)
set_option maxRecDepth 100000 in
theorem m_foes {u : Mm} (h : hSh u) {s w z : Nat} (hs : s < 2) (hw : w < 8) {y : Int32} (hz : z = 1 ∧ y = 1 ∨ z = 7 ∧ y = -1) {N : Nat} : ∀ (d c n : Nat) (a : Int32), c < 8 → d + n ≤ 7 → (c + d * z) % 8 = w → rX9_foesBy_13 (N + d + 1) (wI u 45 (upd (upd (mI u 45) 43 a) 44 (nI n))) 45 (nI s) (nI w) y (nI c) = some (fgo (fun k => mI u 47 (15 + 8 * (1 - s) + k)) z d c a, wI u 45 (upd (upd (mI u 45) 43 (fgo (fun k => mI u 47 (15 + 8 * (1 - s) + k)) z d c a)) 44 (nI (n + d)))) := by
  intro d
  induction d with
  | zero =>
    intro c n a hc hn hd
    have e : c = w := by omega
    subst e
    show bX9_foesBy_13 _ _ 45 (nI s) (nI c) y (nI c) = _
    unfold bX9_foesBy_13
    rw [if_pos rfl, oK_of (sh45 (hSh_wI h)), oI_of]
    rfl
  | succ d ih =>
    intro c n a hc hn hd
    have hne : ¬ nI c = nI w := by
      rw [nI_eq (by omega) (by omega)]
      intro q
      rcases hz with ⟨rfl, -⟩ | ⟨rfl, -⟩ <;> omega
    have h1 : hSh (wI u 45 (upd (upd (mI u 45) 43 a) 44 (nI n))) := h
    show bX9_foesBy_13 (rX9_foesBy_13 (N + d + 1)) _ 45 (nI s) (nI w) y (nI c) = _
    unfold bX9_foesBy_13
    rw [if_neg hne, if_pos (by decide), rmod8 z c hc y hz, oI_of, oK_of (sh45 h1), oI_of, oR_of (sh45 h1), i1s hs, m_menOf h1 (by omega) (nxt_lt z c), oB_of, oK_of (sh45 h1), oU_of, oK_of (sh45 (hSh_wI h1)), oI_of, oK_of (sh45 (hSh_wI h1)), oU_of, wI_s, wI_s]
    have e : upd (mI (wI (wI u 45 (upd (upd (mI u 45) 43 a) 44 (nI n))) 45 (upd (mI (wI u 45 (upd (upd (mI u 45) 43 a) 44 (nI n))) 45) 43 (mI (wI u 45 (upd (upd (mI u 45) 43 a) 44 (nI n))) 45 43 + mI (wI u 45 (upd (upd (mI u 45) 43 a) 44 (nI n))) 47 (15 + 8 * (1 - s) + nxt z c)))) 45) 44 (mI (wI (wI u 45 (upd (upd (mI u 45) 43 a) 44 (nI n))) 45 (upd (mI (wI u 45 (upd (upd (mI u 45) 43 a) 44 (nI n))) 45) 43 (mI (wI u 45 (upd (upd (mI u 45) 43 a) 44 (nI n))) 45 43 + mI (wI u 45 (upd (upd (mI u 45) 43 a) 44 (nI n))) 47 (15 + 8 * (1 - s) + nxt z c)))) 45 44 + 1) = upd (upd (mI u 45) 43 (a + mI u 47 (15 + 8 * (1 - s) + nxt z c))) 44 (nI (n + 1)) := by
      show upd (upd (upd (upd (mI u 45) 43 a) 44 (nI n)) 43 (a + mI u 47 (15 + 8 * (1 - s) + nxt z c))) 44 (nI n + 1) = _
      rw [nI_1, upd_c (show 44 ≠ 43 by decide), upd_s, upd_s]
    rw [e]
    rw [show n + (d + 1) = n + 1 + d by omega]
    exact ih (nxt z c) (n + 1) _ (nxt_lt z c) (by omega) (by unfold nxt; rcases hz with ⟨rfl, -⟩ | ⟨rfl, -⟩ <;> omega)
set_option maxRecDepth 100000 in
theorem fgo_congr {f g : Nat → Int32} (h : ∀ k, k < 8 → f k = g k) (z : Nat) : ∀ d c a, fgo f z d c a = fgo g z d c a
  | 0, _, _ => rfl
  | d + 1, c, a => by
    show fgo f z d (nxt z c) (a + f (nxt z c)) = fgo g z d (nxt z c) (a + g (nxt z c))
    rw [h _ (nxt_lt z c), fgo_congr h z d]
set_option maxRecDepth 100000 in
theorem dst : ∀ f, f < 8 → ∀ w, w < 8 → f ≠ w → ∃ d, d ≤ 7 ∧ (f + d * 1) % 8 = w ∧ (nI w - nI f) - (nI w - nI f) / 8 * 8 = (nI w - nI f) - (nI w - nI f) / 8 * 8 ∧ (if 0 ≤ ((nI w - nI f) ^^^ (8 : Int32) : Int32) then (nI w - nI f) - (nI w - nI f) / 8 * 8 else if (nI w - nI f) - (nI w - nI f) / 8 * 8 = 0 then (nI w - nI f) - (nI w - nI f) / 8 * 8 else (nI w - nI f) - (nI w - nI f) / 8 * 8 + 8) = nI d := by
  intro f hf w hw hne
  refine ⟨(w + 8 - f) % 8, by omega, by omega, rfl, ?_⟩
  exact (by decide +kernel : ∀ f, f < 8 → ∀ w, w < 8 → (if 0 ≤ ((nI w - nI f) ^^^ (8 : Int32) : Int32) then (nI w - nI f) - (nI w - nI f) / 8 * 8 else if (nI w - nI f) - (nI w - nI f) / 8 * 8 = 0 then (nI w - nI f) - (nI w - nI f) / 8 * 8 else (nI w - nI f) - (nI w - nI f) / 8 * 8 + 8) = nI ((w + 8 - f) % 8)) f hf w hw
set_option maxRecDepth 100000 in
theorem fmodd {u : Mm} {f w d : Nat} (e : (if 0 ≤ ((nI w - nI f) ^^^ (8 : Int32) : Int32) then (nI w - nI f) - (nI w - nI f) / 8 * 8 else if (nI w - nI f) - (nI w - nI f) / 8 * 8 = 0 then (nI w - nI f) - (nI w - nI f) / 8 * 8 else (nI w - nI f) - (nI w - nI f) / 8 * 8 + 8) = nI d) : fJ9_floorMod_7cf53 u (nI w - nI f) 8 = some (nI d, u) := by
  unfold fJ9_floorMod_7cf53
  rw [if_pos (by decide), oI_of, ← e]
  split
  · rfl
  · split <;> rfl
set_option maxRecDepth 100000 in
theorem c_foesOn {u : Mm} (h : hSh u) {s f w z d : Nat} (hs : s < 2) (hf : f < 8) (hw : w < 8) {y : Int32} (hz : z = 1 ∧ y = 1 ∨ z = 7 ∧ y = -1) (hd : d ≤ 7) (e : (f + d * z) % 8 = w) : fX2_foesOnWay u 17 (nI s) (nI f) (nI w) y = some (fgo (fun k => mI u 3 (8 + 8 * (1 - s) + k)) z d f 0, u) := by
  unfold fX2_foesOnWay
  rw [show hwF = (999999 - d) + d + 1 by unfold hwF; omega]
  exact c_foes h hs hw hz d f 0 0 hf (by omega) e
set_option maxRecDepth 100000 in
theorem m_foesBy {u : Mm} (h : hSh u) {s f w z d : Nat} (hs : s < 2) (hf : f < 8) (hw : w < 8) {y : Int32} (hz : z = 1 ∧ y = 1 ∨ z = 7 ∧ y = -1) (hd : d ≤ 7) (e : (f + d * z) % 8 = w) : fX9_foesBy u 45 (nI s) (nI f) (nI w) y = some (fgo (fun k => mI u 47 (15 + 8 * (1 - s) + k)) z d f 0, wI u 45 (upd (upd (mI u 45) 43 (fgo (fun k => mI u 47 (15 + 8 * (1 - s) + k)) z d f 0)) 44 (nI d))) := by
  unfold fX9_foesBy
  rw [oK_of (sh45 h), oU_of, oK_of (sh45 (hSh_wI h)), oU_of, wI_s, show hwF = (999999 - d) + d + 1 by unfold hwF; omega]
  have z2 := m_foes h hs hw hz (N := 999999 - d) d f 0 0 hf (by omega) e
  rw [Nat.zero_add] at z2
  exact z2
set_option maxRecDepth 100000 in
/-- twice the same fields, set anew -/
theorem w2 {u : Mm} {a b a' b' : Int32} : upd (upd (mI (wI u 45 (upd (upd (mI u 45) 43 a) 44 b)) 45) 43 a') 44 b' = upd (upd (mI u 45) 43 a') 44 b' := by
  show upd (upd (upd (upd (mI u 45) 43 a) 44 b) 43 a') 44 b' = _
  rw [upd_c (show 44 ≠ 43 by decide), upd_s, upd_s]
set_option maxRecDepth 100000 in
theorem Scr_45f {u : Mm} {f : Nat → Int32} (h : ∀ k, k ∈ [1, 8, 11, 13, 18, 20, 49, 53] → f k = mI u 45 k) : Scr u (wI u 45 f) := by
  refine ⟨Eq.refl _, Eq.refl _, Eq.refl _, fun b _ h2 _ => ?_, fun j hj => ?_, fun i _ => ?_⟩
  · rw [mI_wI, if_neg h2]
  · rw [mI_wI, if_pos (Eq.refl _), h j hj]
  · rw [mI_wI, if_neg (by decide)]
set_option maxRecDepth 100000 in
theorem s32 {LR : Mm → Prop} (hF : LRf LR) : hwS_32 (Rel LR) := by
  intro x f w t u h
  have hS := h.1
  have hT : hSh (mT u) := hS
  have hno : fX8_way u 0 x f w t = some (-1, u) → fX9_way u 45 x f w t = some (-1, mT u) → ∃ r u1 u2, fX8_way u 0 x f w t = some (r, u1) ∧ (mK u1 45).1 = 9 ∧ fX9_way u1 45 x f w t = some (r, u2) ∧ Rel LR u2 := fun a b => ⟨_, _, _, a, hR45_Rel hS, b, Rel_mT hF h⟩
  by_cases c1 : 0 ≤ x ∧ x ≤ 1
  · by_cases c2 : 0 ≤ f ∧ f ≤ 7
    · by_cases c3 : 0 ≤ w ∧ w ≤ 7
      · by_cases c4 : f = w
        · refine hno ?_ ?_
          · unfold fX8_way
            rw [c_isSide, oB_of, if_pos c1, if_neg (by decide), c_isColumn, oB_of, if_pos c2, if_neg (by decide), c_isColumn, oB_of, if_pos c3, if_neg (by decide), if_pos c4]
          · unfold fX9_way
            rw [oK_of (sh45 hS), oT, m_isSide, oB_of, if_pos c1, if_neg (by decide), m_isEight, oB_of, if_pos c2, if_neg (by decide), m_isEight, oB_of, if_pos c3, if_neg (by decide), if_pos c4]
        · obtain ⟨s, hs, rfl⟩ := nIof (n := 1) 1 (by decide) c1
          obtain ⟨a, ha, rfl⟩ := nIof (n := 7) 7 (by decide) c2
          obtain ⟨b, hb, rfl⟩ := nIof (n := 7) 7 (by decide) c3
          have hne : a ≠ b := fun q => c4 (by rw [q])
          obtain ⟨d, hd, e1, -, e2⟩ := dst a (by omega) b (by omega) hne
          obtain ⟨d', hd', e1', -, e2'⟩ := dst b (by omega) a (by omega) (Ne.symm hne)
          have e7 : (a + d' * 7) % 8 = b := by omega
          have eg : ∀ k, k < 8 → mI u 47 (15 + 8 * (1 - s) + k) = mI u 3 (8 + 8 * (1 - s) + k) := fun k hk => at_men h.2.1 (by omega) hk
          have hc : fX8_way u 0 (nI s) (nI a) (nI b) t = (if fgo (fun k => mI u 3 (8 + 8 * (1 - s) + k)) 7 d' a 0 < fgo (fun k => mI u 3 (8 + 8 * (1 - s) + k)) 1 d a 0 then bX8_way_66 u (nI a) (nI b) t (fgo (fun k => mI u 3 (8 + 8 * (1 - s) + k)) 1 d a 0) (fgo (fun k => mI u 3 (8 + 8 * (1 - s) + k)) 7 d' a 0) 0 else bX8_way_66 u (nI a) (nI b) t (fgo (fun k => mI u 3 (8 + 8 * (1 - s) + k)) 1 d a 0) (fgo (fun k => mI u 3 (8 + 8 * (1 - s) + k)) 7 d' a 0) 1) := by
            unfold fX8_way
            rw [c_isSide, oB_of, if_pos c1, if_neg (by decide), c_isColumn, oB_of, if_pos c2, if_neg (by decide), c_isColumn, oB_of, if_pos c3, if_neg (by decide), if_neg c4, oK_of (sh0 hS), rf0_2 hS, oNn_of, oR_of (sh17 hS), c_foesOn hS (by omega) (by omega) (by omega) (Or.inl ⟨rfl, rfl⟩) hd e1, oB_of, oK_of (sh0 hS), rf0_2 hS, oNn_of, oR_of (sh17 hS), c_foesOn hS (by omega) (by omega) (by omega) (Or.inr ⟨rfl, rfl⟩) hd' e7, oB_of]
          by_cases c5 : 0 ≤ t ∧ t ≤ 2
          · have g1 : ∀ p q, fX9_foesBy (wI (mT u) 45 (upd (upd (mI (mT u) 45) 43 p) 44 q)) 45 (nI s) (nI a) (nI b) 1 = some (fgo (fun k => mI u 3 (8 + 8 * (1 - s) + k)) 1 d a 0, wI (mT u) 45 (upd (upd (mI (mT u) 45) 43 (fgo (fun k => mI u 3 (8 + 8 * (1 - s) + k)) 1 d a 0)) 44 (nI d))) := by
              intro p q
              rw [m_foesBy (u := wI (mT u) 45 (upd (upd (mI (mT u) 45) 43 p) 44 q)) hS (by omega) (by omega) (by omega) (Or.inl ⟨rfl, rfl⟩) hd e1, wI_s, w2]
              rw [fgo_congr (f := fun k => mI (wI (mT u) 45 (upd (upd (mI (mT u) 45) 43 p) 44 q)) 47 (15 + 8 * (1 - s) + k)) eg]
            have g2 : ∀ p q, fX9_foesBy (wI (mT u) 45 (upd (upd (mI (mT u) 45) 43 p) 44 q)) 45 (nI s) (nI a) (nI b) (-1) = some (fgo (fun k => mI u 3 (8 + 8 * (1 - s) + k)) 7 d' a 0, wI (mT u) 45 (upd (upd (mI (mT u) 45) 43 (fgo (fun k => mI u 3 (8 + 8 * (1 - s) + k)) 7 d' a 0)) 44 (nI d'))) := by
              intro p q
              rw [m_foesBy (u := wI (mT u) 45 (upd (upd (mI (mT u) 45) 43 p) 44 q)) hS (by omega) (by omega) (by omega) (Or.inr ⟨rfl, rfl⟩) hd' e7, wI_s, w2]
              rw [fgo_congr (f := fun k => mI (wI (mT u) 45 (upd (upd (mI (mT u) 45) 43 p) 44 q)) 47 (15 + 8 * (1 - s) + k)) eg]
            have g0 : fX9_foesBy (mT u) 45 (nI s) (nI a) (nI b) 1 = some (fgo (fun k => mI u 3 (8 + 8 * (1 - s) + k)) 1 d a 0, wI (mT u) 45 (upd (upd (mI (mT u) 45) 43 (fgo (fun k => mI u 3 (8 + 8 * (1 - s) + k)) 1 d a 0)) 44 (nI d))) := by
              rw [m_foesBy hT (by omega) (by omega) (by omega) (Or.inl ⟨rfl, rfl⟩) hd e1]
              rw [fgo_congr (f := fun k => mI (mT u) 47 (15 + 8 * (1 - s) + k)) eg]
            have k9 : ∀ p q, mK (wI (mT u) 45 (upd (upd (mI (mT u) 45) 43 p) 44 q)) 45 = (9, 54) := fun _ _ => sh45 hS
            have hR : ∀ p q, Rel LR (wI (mT u) 45 (upd (upd (mI (mT u) 45) 43 p) 44 q)) := fun p q => Rel_Scr hF (Rel_mT hF h) (Scr_45f (fun k hk => by
              rw [pk_un (by rintro rfl; exact absurd hk (by decide)), pk_un (by rintro rfl; exact absurd hk (by decide))]))
            have hm : fX9_way u 45 (nI s) (nI a) (nI b) t = (if fgo (fun k => mI u 3 (8 + 8 * (1 - s) + k)) 7 d' a 0 < fgo (fun k => mI u 3 (8 + 8 * (1 - s) + k)) 1 d a 0 then bX9_way_70 (wI (mT u) 45 (upd (upd (mI (mT u) 45) 43 (fgo (fun k => mI u 3 (8 + 8 * (1 - s) + k)) 7 d' a 0)) 44 (nI d'))) 45 (nI s) (nI a) (nI b) t 0 else bX9_way_70 (wI (mT u) 45 (upd (upd (mI (mT u) 45) 43 (fgo (fun k => mI u 3 (8 + 8 * (1 - s) + k)) 7 d' a 0)) 44 (nI d'))) 45 (nI s) (nI a) (nI b) t 1) := by
              unfold fX9_way
              rw [oK_of (sh45 hS), oT, m_isSide, oB_of, if_pos c1, if_neg (by decide), m_isEight, oB_of, if_pos c2, if_neg (by decide), m_isEight, oB_of, if_pos c3, if_neg (by decide), if_neg c4, m_in2, oB_of, if_pos c5, if_neg (by decide), oR_of (sh45 hT), g0, oB_of, oR_of (k9 _ _), g2, oB_of]
            generalize hFD : fgo (fun k => mI u 3 (8 + 8 * (1 - s) + k)) 7 d' a 0 = FD at *
            generalize hFU : fgo (fun k => mI u 3 (8 + 8 * (1 - s) + k)) 1 d a 0 = FU at *
            obtain ⟨j, hj, rfl⟩ := nIof (n := 2) 2 (by decide) c5
            by_cases cm : FD < FU
            · rw [if_pos cm] at hc hm
              unfold bX9_way_70 bX9_way_86 bX9_way_125 at hm
              rw [if_pos rfl, oR_of (k9 _ _), g2, oB_of] at hm
              unfold bX8_way_66 bX8_way_108 bX8_way_119 bX8_way_134 at hc
              rcases (by omega : j = 0 ∨ j = 1 ∨ j = 2) with rfl | rfl | rfl
              · rw [if_pos (by decide), if_pos rfl] at hc
                rw [if_pos (by decide), oK_of (k9 _ _), oI_of] at hm
                exact ⟨_, _, _, hc, hR45_Rel hS, hm, hR _ _⟩
              · rw [if_neg (by decide), if_pos (by decide), if_pos rfl] at hc
                rw [if_neg (by decide), if_pos (by decide), if_pos rfl] at hm
                exact ⟨_, _, _, hc, hR45_Rel hS, hm, hR _ _⟩
              · rw [if_neg (by decide), if_neg (by decide), if_pos (by decide), if_pos rfl, fmodd e2', oB_of] at hc
                rw [if_neg (by decide), if_neg (by decide), oK_of (k9 _ _), oI_of] at hm
                exact ⟨_, _, _, hc, hR45_Rel hS, hm, hR _ _⟩
            · rw [if_neg cm] at hc hm
              unfold bX9_way_70 bX9_way_86 bX9_way_125 at hm
              rw [if_neg (by decide), oR_of (k9 _ _), g1, oB_of] at hm
              unfold bX8_way_66 bX8_way_108 bX8_way_119 bX8_way_134 at hc
              rcases (by omega : j = 0 ∨ j = 1 ∨ j = 2) with rfl | rfl | rfl
              · rw [if_pos (by decide), if_neg (by decide)] at hc
                rw [if_pos (by decide), oK_of (k9 _ _), oI_of] at hm
                exact ⟨_, _, _, hc, hR45_Rel hS, hm, hR _ _⟩
              · rw [if_neg (by decide), if_pos (by decide), if_neg (by decide)] at hc
                rw [if_neg (by decide), if_pos (by decide), if_neg (by decide)] at hm
                exact ⟨_, _, _, hc, hR45_Rel hS, hm, hR _ _⟩
              · rw [if_neg (by decide), if_neg (by decide), if_pos (by decide), if_neg (by decide), fmodd e2, oB_of] at hc
                rw [if_neg (by decide), if_neg (by decide), oK_of (k9 _ _), oI_of] at hm
                exact ⟨_, _, _, hc, hR45_Rel hS, hm, hR _ _⟩
          · refine hno ?_ ?_
            · have t0 : ¬ t = 0 := fun q => c5 (by rw [q]; decide)
              have t1 : ¬ t = 1 := fun q => c5 (by rw [q]; decide)
              have t2 : ¬ t = 2 := fun q => c5 (by rw [q]; decide)
              rw [hc]
              unfold bX8_way_66
              rw [if_neg t0, if_neg t1, if_neg t2, if_neg t0, if_neg t1, if_neg t2]
              split <;> rfl
            · unfold fX9_way
              rw [oK_of (sh45 hS), oT, m_isSide, oB_of, if_pos c1, if_neg (by decide), m_isEight, oB_of, if_pos c2, if_neg (by decide), m_isEight, oB_of, if_pos c3, if_neg (by decide), if_neg c4, m_in2, oB_of, if_neg c5, if_pos rfl]
      · refine hno ?_ ?_
        · unfold fX8_way
          rw [c_isSide, oB_of, if_pos c1, if_neg (by decide), c_isColumn, oB_of, if_pos c2, if_neg (by decide), c_isColumn, oB_of, if_neg c3, if_pos rfl]
        · unfold fX9_way
          rw [oK_of (sh45 hS), oT, m_isSide, oB_of, if_pos c1, if_neg (by decide), m_isEight, oB_of, if_pos c2, if_neg (by decide), m_isEight, oB_of, if_neg c3, if_pos rfl]
    · refine hno ?_ ?_
      · unfold fX8_way
        rw [c_isSide, oB_of, if_pos c1, if_neg (by decide), c_isColumn, oB_of, if_neg c2, if_pos rfl]
      · unfold fX9_way
        rw [oK_of (sh45 hS), oT, m_isSide, oB_of, if_pos c1, if_neg (by decide), m_isEight, oB_of, if_neg c2, if_pos rfl]
  · refine hno ?_ ?_
    · unfold fX8_way
      rw [c_isSide, oB_of, if_neg c1, if_pos rfl]
    · unfold fX9_way
      rw [oK_of (sh45 hS), oT, m_isSide, oB_of, if_neg c1, if_pos rfl]
