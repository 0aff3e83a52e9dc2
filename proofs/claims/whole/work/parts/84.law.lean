/-! ===== a law, as both have it ===== -/
abbrev LawA : Type := Nat × (Nat → Nat) × (Nat → Bool) × (Nat → (Nat → Int32) → Int64) × (Nat → (Nat → Int32) → Int64)
def aC (A : LawA) : Nat := A.1
def aH (A : LawA) : Nat → Nat := A.2.1
def aT (A : LawA) : Nat → Bool := A.2.2.1
def aV (A : LawA) : Nat → (Nat → Int32) → Int64 := A.2.2.2.1
def aS (A : LawA) : Nat → (Nat → Int32) → Int64 := A.2.2.2.2
/-- the reference's leaves (true: of orders), and their values -/
def lvM (q : Bool) (o a : Int32) : Prop := (o = 0 ∧ rg a 0 1000) ∨ (q = false ∧ ∃ j, 1 ≤ j ∧ j ≤ 10 ∧ o = nI j) ∨ (q = true ∧ ((∃ j, 1 ≤ j ∧ j ≤ 3 ∧ o = nI j) ∨ (o = 4 ∧ ∃ c, c < 8 ∧ a = nI c) ∨ (o = 5 ∧ ∃ s, s < 2 ∧ a = nI s) ∨ (o = 6 ∧ ∃ s, s < 2 ∧ a = nI s)))
def LM (q : Bool) (W : Nat → Int32) (o a : Int32) : Int64 := if o = 0 then a.toInt64 else if q = false then (W (o.toNatClampNeg - 1)).toInt64 else if o = 4 then (W (3 + a.toNatClampNeg)).toInt64 else if o = 5 then (W (11 + a.toNatClampNeg)).toInt64 else if o = 6 then (W (13 + a.toNatClampNeg)).toInt64 else (W (o.toNatClampNeg - 1)).toInt64
set_option maxRecDepth 100000 in
theorem r_207 {m : Mm} (hS : hSh m) {S : Nat → Int64} {K : Mm → Nat → Int32 → Int32 → Int32 → Option (Unit × Mm)} {last x : Int32} {d : Nat} {v : Int64} (hd : d < 400) : bX9_reckonAll_207 K (wL m 65 S) 45 last (nI d) x v (nI d) 65 = K (wL m 65 (vp_updL S d v)) 45 last (nI (d + 1)) x := by
  have h1 : hSh (wL m 65 S) := hS
  unfold bX9_reckonAll_207 bX9_reckonAll_353
  rw [oA_k (sh65 h1) hd (by decide), oU_of, clm (by omega), nI_1, wL_s]
  rfl
set_option maxRecDepth 100000 in
theorem LE_law {m : Mm} (hS : hSh m) (h20 : mI m 45 20 = 0) {W : Nat → Int32} (hW : ∀ j, j < 10 → mL m 63 (j + 1) = (W j).toInt64) : LE m (lvM false) (LM false W) := by
  intro S K last d k o a h hd
  have h1 : hSh (wL m 65 S) := hS
  have e20 : mI (wL m 65 S) 45 20 = 0 := h20
  unfold bX9_reckonAll_95
  rcases h with ⟨rfl, h⟩ | ⟨-, j, j1, j2, rfl⟩ | ⟨q, -⟩
  · rw [if_neg (by decide), oK_of (sh45 h1), rf45_37 h1, oNn_of, if_pos rfl, nI_1, r_207 hS hd]
    rfl
  · have n20 : ¬ (20 : Int32) ≤ nI j := nI_ge (b := 20) (by omega) (by decide)
    have n0 : ¬ nI j = 0 := nI_ne0 (by omega) (by omega)
    rw [if_neg n20, oK_of (sh45 h1), rf45_37 h1, oNn_of, if_neg n0, oK_of (sh45 h1), oI_of, e20, if_pos rfl, oK_of (sh45 h1), rf45_35 h1, oNn_of, oA_k (sh63 h1) (by omega) (by decide), oJ_of, clm (by omega), nI_1, r_207 hS hd]
    have e : mL (wL m 65 S) 63 j = LM false W (nI j) a := by
      show mL m 63 j = _
      unfold LM
      rw [if_neg n0, if_pos rfl, clm (by omega)]
      have := hW (j - 1) (by omega)
      rw [show j - 1 + 1 = j by omega] at this
      exact this
    rw [e]
  · cases q
set_option maxRecDepth 100000 in
theorem LE_order {m : Mm} (hS : hSh m) (h20 : mI m 45 20 = 1) {W : Nat → Int32} (hW : ∀ j, j < 3 → mL m 64 (j + 1) = (W j).toInt64) (hl : ∀ c, c < 8 → mI m 47 (7 + c) = W (3 + c)) (hs : ∀ s, s < 2 → mI m 47 (31 + s) = W (11 + s)) (ht : ∀ s, s < 2 → mI m 47 (33 + s) = W (13 + s)) : LE m (lvM true) (LM true W) := by
  intro S K last d k o a h hd
  have h1 : hSh (wL m 65 S) := hS
  have e20 : mI (wL m 65 S) 45 20 = 1 := h20
  unfold bX9_reckonAll_95
  rcases h with ⟨rfl, h⟩ | ⟨q, -⟩ | ⟨-, ⟨j, j1, j2, rfl⟩ | ⟨rfl, c, hc, rfl⟩ | ⟨rfl, c, hc, rfl⟩ | ⟨rfl, c, hc, rfl⟩⟩
  · rw [if_neg (by decide), oK_of (sh45 h1), rf45_37 h1, oNn_of, if_pos rfl, nI_1, r_207 hS hd]
    rfl
  · cases q
  · have n20 : ¬ (20 : Int32) ≤ nI j := nI_ge (b := 20) (by omega) (by decide)
    have n4 : ¬ (4 : Int32) ≤ nI j := nI_ge (b := 4) (by omega) (by decide)
    have n0 : ¬ nI j = 0 := nI_ne0 (by omega) (by omega)
    rw [if_neg n20, oK_of (sh45 h1), rf45_37 h1, oNn_of, if_neg n0, oK_of (sh45 h1), oI_of, e20, if_neg (by decide), if_neg n4, oK_of (sh45 h1), rf45_36 h1, oNn_of, oA_k (sh64 h1) (by omega) (by decide), oJ_of, clm (by omega), nI_1, r_207 hS hd]
    have e : mL (wL m 65 S) 64 j = LM true W (nI j) a := by
      show mL m 64 j = _
      unfold LM
      have m4 : ¬ nI j = 4 := fun q => by have := (nI_eq (b := 4) (by omega) (by decide)).mp q; omega
      have m5 : ¬ nI j = 5 := fun q => by have := (nI_eq (b := 5) (by omega) (by decide)).mp q; omega
      have m6 : ¬ nI j = 6 := fun q => by have := (nI_eq (b := 6) (by omega) (by decide)).mp q; omega
      rw [if_neg n0, if_neg (by decide), if_neg m4, if_neg m5, if_neg m6, clm (by omega)]
      have := hW (j - 1) (by omega)
      rw [show j - 1 + 1 = j by omega] at this
      exact this
    rw [e]
  · rw [if_neg (by decide), oK_of (sh45 h1), rf45_37 h1, oNn_of, if_neg (by decide), oK_of (sh45 h1), oI_of, e20, if_neg (by decide), if_pos (by decide), if_pos rfl, oK_of (sh45 h1), rf45_3 h1, oNn_of, show (7 : Int32) + nI c = nI (7 + c) from nI_add 7 c, oA_k (sh47 h1) (by omega) (by decide), oI_of, clm (by omega), nI_1, r_207 hS hd, show mI (wL m 65 S) 47 (7 + c) = W (3 + c) from hl c hc]
    have e : LM true W 4 (nI c) = (W (3 + c)).toInt64 := by unfold LM; rw [if_neg (by decide), if_neg (by decide), if_pos rfl, clm (by omega)]
    rw [e]
  · rw [if_neg (by decide), oK_of (sh45 h1), rf45_37 h1, oNn_of, if_neg (by decide), oK_of (sh45 h1), oI_of, e20, if_neg (by decide), if_pos (by decide), if_neg (by decide), if_pos rfl, oK_of (sh45 h1), rf45_3 h1, oNn_of, show (31 : Int32) + nI c = nI (31 + c) from nI_add 31 c, oA_k (sh47 h1) (by omega) (by decide), oI_of, clm (by omega), nI_1, r_207 hS hd, show mI (wL m 65 S) 47 (31 + c) = W (11 + c) from hs c hc]
    have e : LM true W 5 (nI c) = (W (11 + c)).toInt64 := by unfold LM; rw [if_neg (by decide), if_neg (by decide), if_neg (by decide), if_pos rfl, clm (by omega)]
    rw [e]
  · rw [if_neg (by decide), oK_of (sh45 h1), rf45_37 h1, oNn_of, if_neg (by decide), oK_of (sh45 h1), oI_of, e20, if_neg (by decide), if_pos (by decide), if_neg (by decide), if_neg (by decide), oK_of (sh45 h1), rf45_3 h1, oNn_of, show (33 : Int32) + nI c = nI (33 + c) from nI_add 33 c, oA_k (sh47 h1) (by omega) (by decide), oI_of, clm (by omega), nI_1, r_207 hS hd, show mI (wL m 65 S) 47 (33 + c) = W (13 + c) from ht c hc]
    have e : LM true W 6 (nI c) = (W (13 + c)).toInt64 := by unfold LM; rw [if_neg (by decide), if_neg (by decide), if_neg (by decide), if_neg (by decide), if_pos rfl, clm (by omega)]
    rw [e]
set_option maxRecDepth 100000 in
/-- what the reference fetches: of the law at b in the row, of the orders -/
theorem FE_law {m : Mm} (hS : hSh m) (h20 : mI m 45 20 = 0) (h38 : mI m 45 38 = 0) {b : Nat} (h34 : mI m 45 34 = nI b) {lo hi last : Nat} (hb : b + 98 + 2 * hi ≤ 5530) (hh : hi ≤ last) (hl : last ≤ 400) : FE m (fun k => mI m 47 (b + 98 + 2 * k)) (fun k => mI m 47 (b + 99 + 2 * k)) lo hi last := by
  intro S K d k k1 k2
  have h1 : hSh (wL m 65 S) := hS
  have e20 : mI (wL m 65 S) 45 20 = 0 := h20
  have e38 : mI (wL m 65 S) 45 38 = 0 := h38
  have e34 : mI (wL m 65 S) 45 34 = nI b := h34
  have e1 : nI b + 98 + 2 * nI k = nI (b + 98 + 2 * k) := by rw [show (98 : Int32) = nI 98 from rfl, show (2 : Int32) = nI 2 from rfl, nI_mul, nI_add, nI_add]
  unfold bX9_reckonAll_10 bX9_reckonAll_57
  rw [if_neg (nI_ge (by omega) (by omega)), oK_of (sh45 h1), oI_of, e38, if_pos rfl, oK_of (sh45 h1), oI_of, e20, if_pos rfl, oK_of (sh45 h1), rf45_3 h1, oNn_of, oK_of (sh45 h1), oI_of, e34, e1, oA_k (sh47 h1) (by omega) (by decide), oI_of, clm (by omega), oK_of (sh45 h1), oI_of, if_pos rfl, oK_of (sh45 h1), oNn_of, oK_of (sh45 h1), oI_of, e1, nI_1, oA_k (sh47 h1) (by omega) (by decide), oI_of, clm (by omega), show b + 98 + 2 * k + 1 = b + 99 + 2 * k by omega]
  rfl
set_option maxRecDepth 100000 in
theorem FE_order {m : Mm} (hS : hSh m) (h20 : mI m 45 20 = 1) (h38 : mI m 45 38 = 0) {lo hi last : Nat} (hh : hi ≤ last) (hl : last ≤ 400) : FE m (mI m 56) (mI m 57) lo hi last := by
  intro S K d k k1 k2
  have h1 : hSh (wL m 65 S) := hS
  have e20 : mI (wL m 65 S) 45 20 = 1 := h20
  have e38 : mI (wL m 65 S) 45 38 = 0 := h38
  unfold bX9_reckonAll_10 bX9_reckonAll_57
  rw [if_neg (nI_ge (by omega) (by omega)), oK_of (sh45 h1), oI_of, e38, if_pos rfl, oK_of (sh45 h1), oI_of, e20, if_neg (by decide), oK_of (sh45 h1), rf45_24 h1, oNn_of, oA_k (sh56 h1) (by omega) (by decide), oI_of, clm (by omega), oK_of (sh45 h1), oI_of, if_neg (by decide), oK_of (sh45 h1), rf45_25 h1, oNn_of, oA_k (sh57 h1) (by omega) (by decide), oI_of]
  rfl
/-! what a law tells -/
def tld (A : LawA) (h : Nat) (W : Nat → Int32) (w : Int64) : Nat → Int64
  | 0 => w
  | r + 1 => if aH A r = h ∧ (aT A r = false ∨ aV A r W = 1) ∧ (h = 3 ∨ aS A r W ≠ BR) then (if h = 3 then 1 else aS A r W) else tld A h W w r
def SegV (u : Mm) (t : Nat) (f : (Nat → Int32) → Int64) (a : Nat) : Prop := ∃ cd wt b p, p ≤ 51 ∧ (∀ W, CSeg cd wt W a b p (f W)) ∧ TX u t cd wt a b ∧ (mI u t 2 = nI b ∨ ∃ w, TX u t (fun _ => 288) w b (b + 1))
set_option maxRecDepth 100000 in
theorem SegV_val {u : Mm} {t a : Nat} {f : (Nat → Int32) → Int64} (hS : hSh u) (h : SegV u t f a) : ∃ S, fX5_valueOf u 14 t (nI a) = some (f (mI u 16), wL u 15 S) := by
  obtain ⟨cd, wt, b, p, h1, h2, h3, h4⟩ := h
  exact CSeg_value (h2 (mI u 16)) h1 hS h3 h4 (fun _ _ => rfl)
def TS (u : Mm) (t : Nat) : Prop := mK u t = (6, 7) ∧ mR u t 0 = some (t + 1) ∧ mR u t 1 = some (t + 2) ∧ mR u t 3 = some (t + 3) ∧ mR u t 4 = some (t + 4) ∧ mR u t 5 = some (t + 5)
def CLaw (u : Mm) (t : Nat) (A : LawA) : Prop := TS u t ∧ aC A ≤ 12 ∧ mI u t 6 = nI (aC A) ∧ (∃ nk ns, mK u (t + 3) = (10, nk) ∧ mK u (t + 5) = (10, ns) ∧ aC A ≤ nk ∧ 4 * aC A ≤ ns ∧ nk ≤ 401 ∧ ns ≤ 401) ∧ ∀ r, r < aC A → mI u (t + 3) r = nI (256 + aH A r) ∧ aH A r < 4 ∧ (aT A r = true → ∃ a, a ≤ 401 ∧ mI u (t + 5) (4 * r + 3) = nI a ∧ SegV u t (aV A r) a) ∧ (aT A r = false → mI u (t + 5) (4 * r + 3) = -1) ∧ (aH A r ≠ 3 → ∃ a, a ≤ 401 ∧ mI u (t + 5) (4 * r) = nI a ∧ SegV u t (aS A r) a)
def fit (v : Int64) : Prop := v.toInt32.toInt64 = v
set_option maxRecDepth 100000 in
theorem fit32 (w : Int32) : fit w.toInt64 := by unfold fit; rw [Int32.toInt32_toInt64]
def AOK (A : LawA) : Prop := ∀ r, r < aC A → ∀ W, tv (aV A r W) ∧ (aS A r W ≠ BR → fit (aS A r W))
set_option maxRecDepth 100000 in
theorem tld_fit {A : LawA} (hA : AOK A) {h : Nat} {W : Nat → Int32} {w : Int64} (hw : fit w) : ∀ r, r ≤ aC A → fit (tld A h W w r)
  | 0, _ => hw
  | r + 1, hr => by
    unfold tld
    split
    · rename_i z
      split
      · unfold fit; decide
      · rename_i z2
        exact (hA r (by omega) W).2 (z.2.2.resolve_left z2)
    · exact tld_fit hA hw r (by omega)
set_option maxRecDepth 100000 in
theorem CLaw_wL {u : Mm} {t a : Nat} {A : LawA} {S : Nat → Int64} : CLaw (wL u a S) t A = CLaw u t A := rfl
set_option maxRecDepth 100000 in
theorem nIne {a b : Nat} (h : a ≠ b) (ha : a < 2147483648) (hb : b < 2147483648) : ¬ nI a = nI b := fun q => h ((nI_eq ha hb).mp q)
set_option maxRecDepth 100000 in
theorem c_toldgo {u : Mm} (hS : hSh u) {t : Nat} {A : LawA} (hL : CLaw u t A) {h : Nat} (hh : h < 4) {w : Int32} {N : Nat} : ∀ (r : Nat) (S0 : Nat → Int64), r ≤ aC A → ∃ S, rX5_toldBy_14 (N + r + 1) (wL u 15 S0) 14 t (nI (256 + h)) w (tpI r) = some ((tld A h (mI u 16) w.toInt64 r).toInt32, wL u 15 S) := by
  intro r
  induction r with
  | zero =>
    intro S0 _
    refine ⟨S0, ?_⟩
    show bX5_toldBy_14 _ _ 14 t _ w (tpI 0) = _
    unfold bX5_toldBy_14 tld
    rw [if_pos (by decide), Int32.toInt32_toInt64]
  | succ r ih =>
    intro S0 hr
    obtain ⟨⟨t1, t2, t3, t4, t5, t6⟩, c1, c2, ⟨nk, ns, k1, k2, k3, k4, k5, k6⟩, c3⟩ := hL
    obtain ⟨g1, g2, g3, g4, g5⟩ := c3 r (by omega)
    have hV : ∀ (S : Nat → Int64) (f : (Nat → Int32) → Int64) (a : Nat), SegV u t f a → ∃ S', fX5_valueOf (wL u 15 S) 14 t (nI a) = some (f (mI u 16), wL u 15 S') := by
      intro S f a hf
      obtain ⟨S', e⟩ := SegV_val (u := wL u 15 S) hS hf
      rw [wL_s] at e
      exact ⟨S', e⟩
    have next : ∀ S1, bX5_toldBy_101 (rX5_toldBy_14 (N + r + 1)) (wL u 15 S1) 14 t (nI (256 + h)) w (nI r) = rX5_toldBy_14 (N + r + 1) (wL u 15 S1) 14 t (nI (256 + h)) w (tpI r) := by
      intro S1
      unfold bX5_toldBy_101 tpI
      rw [Int32.sub_eq_add_neg]
    have h1 : ∀ S, hSh (wL u 15 S) := fun _ => hS
    have q1 : ∀ S, mK (wL u 15 S) t = (6, 7) := fun _ => t1
    have q5 : ∀ S, mR (wL u 15 S) t 5 = some (t + 5) := fun _ => t6
    have q3 : ∀ S, mR (wL u 15 S) t 3 = some (t + 3) := fun _ => t4
    have qs : ∀ S, mK (wL u 15 S) (t + 5) = (10, ns) := fun _ => k2
    have qk : ∀ S, mK (wL u 15 S) (t + 3) = (10, nk) := fun _ => k1
    have e4 : nI r * 4 = nI (4 * r) := by rw [show (4 : Int32) = nI 4 from rfl, nI_mul, Nat.mul_comm]
    have e43 : nI (4 * r) + 3 = nI (4 * r + 3) := by rw [show (3 : Int32) = nI 3 from rfl, nI_add]
    have sm : ∀ S1, (aH A r = h → ∃ S, bX5_toldBy_61 (rX5_toldBy_14 (N + r + 1)) (wL u 15 S1) 14 t (nI (256 + h)) w (nI r) = some ((if h = 3 ∨ aS A r (mI u 16) ≠ BR then (if h = 3 then 1 else aS A r (mI u 16)) else tld A h (mI u 16) w.toInt64 r).toInt32, wL u 15 S)) := by
      intro S1 ha
      unfold bX5_toldBy_61 bX5_toldBy_86
      by_cases z : h = 3
      · subst z
        rw [if_pos (show nI (256 + 3) = 259 from rfl), if_neg (by decide), if_pos (Or.inl rfl), if_pos rfl]
        exact ⟨S1, rfl⟩
      · rw [if_neg (show ¬ nI (256 + h) = 259 from fun q => z (by have := (nI_eq (b := 259) (by omega) (by decide)).mp q; omega))]
        obtain ⟨a, a1, a2, a3⟩ := g5 (by rw [ha]; exact z)
        obtain ⟨S2, e2⟩ := hV S1 _ a a3
        rw [oK_of (q1 _), q5, oNn_of, e4, oA_k (qs _) (by omega) (by omega), oI_of, clm (by omega), show mI (wL u 15 S1) (t + 5) (4 * r) = nI a from a2, oR_of (sh14 (h1 _)), e2, oB_of]
        by_cases z2 : aS A r (mI u 16) = BR
        · rw [if_pos ((hBR _).mpr z2), if_neg (fun y => y.elim z (fun y => y z2)), next]
          exact ih S2 (by omega)
        · rw [if_neg (fun y => z2 ((hBR _).mp y)), if_pos (Or.inr z2), if_neg z]
          exact ⟨S2, rfl⟩
    show ∃ S, bX5_toldBy_14 (rX5_toldBy_14 (N + r + 1)) (wL u 15 S0) 14 t _ w (tpI (r + 1)) = _
    unfold bX5_toldBy_14
    rw [tpI_s, if_neg (nI_pos (by omega)), oK_of (q1 _), q5, oNn_of, e4, e43, oA_k (qs _) (by omega) (by omega), oI_of, clm (by omega), oK_of (q1 _), q3, oNn_of, oA_k (qk _) (by omega) (by omega), oI_of, clm (by omega), show mI (wL u 15 S0) (t + 3) r = nI (256 + aH A r) from g1]
    unfold tld
    by_cases ha : aH A r = h
    · rw [if_pos (by rw [ha])]
      rcases hTT : aT A r with _ | _
      · have hT : aT A r = false := hTT
        rw [show mI (wL u 15 S0) (t + 5) (4 * r + 3) = -1 from g4 hT, if_pos rfl]
        obtain ⟨S, e⟩ := sm S0 ha
        refine ⟨S, e.trans ?_⟩
        by_cases z : h = 3 ∨ aS A r (mI u 16) ≠ BR
        · rw [if_pos z, if_pos (show aH A r = h ∧ (false = false ∨ aV A r (mI u 16) = 1) ∧ (h = 3 ∨ aS A r (mI u 16) ≠ BR) from ⟨ha, Or.inl rfl, z⟩)]
        · rw [if_neg z, if_neg (show ¬ (aH A r = h ∧ _ ∧ _) from fun y => z y.2.2)]
      · have hT : aT A r = true := hTT
        obtain ⟨a, a1, a2, a3⟩ := g3 hT
        obtain ⟨S2, e2⟩ := hV S0 _ a a3
        have na : ¬ nI a = -1 := fun q => by
          have := congrArg Int32.toInt q
          rw [nI_toInt (by omega)] at this
          have m1 : (-1 : Int32).toInt = -1 := by decide
          omega
        rw [show mI (wL u 15 S0) (t + 5) (4 * r + 3) = nI a from a2, if_neg na, oR_of (sh14 (h1 _)), e2, oB_of]
        by_cases z1 : aV A r (mI u 16) = 1
        · rw [if_pos ((lg_eq _ _).mpr z1)]
          obtain ⟨S, e⟩ := sm S2 ha
          refine ⟨S, e.trans ?_⟩
          by_cases z : h = 3 ∨ aS A r (mI u 16) ≠ BR
          · rw [if_pos z, if_pos (show aH A r = h ∧ _ ∧ _ from ⟨ha, Or.inr z1, z⟩)]
          · rw [if_neg z, if_neg (show ¬ (aH A r = h ∧ _ ∧ _) from fun y => z y.2.2)]
        · rw [if_neg (fun y => z1 ((lg_eq _ _).mp y)), next, if_neg (fun y => y.2.1.elim (fun y => by simp at y) z1)]
          exact ih S2 (by omega)
    · rw [if_neg (nIne (by omega) (by omega) (by omega)), next, if_neg (fun y => ha y.1)]
      exact ih S0 (by omega)
set_option maxRecDepth 100000 in
theorem c_toldBy {u : Mm} (hS : hSh u) {t : Nat} {A : LawA} (hL : CLaw u t A) {h : Nat} (hh : h < 4) {w : Int32} : ∃ S, fX5_toldBy u 14 (some t) (nI (256 + h)) w = some ((tld A h (mI u 16) w.toInt64 (aC A)).toInt32, wL u 15 S) := by
  have hL0 := hL
  obtain ⟨⟨t1, -⟩, c1, c2, -⟩ := hL
  obtain ⟨S, e⟩ := c_toldgo hS hL0 hh (w := w) (N := 999999 - aC A) (aC A) (mL u 15) (Nat.le_refl _)
  refine ⟨S, ?_⟩
  unfold fX5_toldBy
  rw [wL_id, show 999999 - aC A + aC A + 1 = hwF by unfold hwF; omega] at e
  show oK u t 6 7 _ = _
  rw [oK_of t1, oI_of, c2, oI_of]
  exact e
