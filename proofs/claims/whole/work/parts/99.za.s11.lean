/-! ===== law: both alike ===== -/
set_option maxRecDepth 100000 in
theorem Rel_fin {u u2 : Mm} (h : Rel LR u) (hQ : mQ u2 = mQ u) (hK : mK u2 = mK u) (hR : mR u2 = mR u) (ha : ∀ a, scr a = false → a ≠ 0 → a ≠ 44 → a ≠ 45 → a ≠ 46 → mI u2 a = mI u a) (hmi : Rmi (mI u2 0) (mI u2 45) (mI u2 44) (mI u2 46)) (h10 : mI u2 0 10 = mI u 0 10) (h8 : mI u2 45 8 = mI u 45 8) : Rel LR u2 := by
  obtain ⟨h1, h2, h3, h4, h5, h6, h7⟩ := h
  have e : ∀ a, scr a = false → a ≠ 0 ∧ a ≠ 44 ∧ a ≠ 45 ∧ a ≠ 46 → mI u2 a = mI u a := fun a q1 q2 => ha a q1 q2.1 q2.2.1 q2.2.2.1 q2.2.2.2
  refine Rel_put LRf_LR ⟨h1, h2, h3, h4, h5, h6, h7⟩ hQ hK hR (fun a q => e a ?_ (by omega)) (Rbk_eq h2 (fun j hj => e _ ?_ (by omega)) (fun i _ => by rw [e 47 rfl (by decide)])) (by rw [e 47 rfl (by decide)]; exact rl0) (e 48 rfl (by decide)) (e 49 rfl (by decide)) hmi ?_ ?_ ?_
  · unfold scr; simp; omega
  · have : ∀ j, j ≤ 10 → scr (1 + j) = false := by decide +kernel
    exact this j hj
  · rw [e 42 rfl (by decide), e 54 rfl (by decide)]; exact h4
  · unfold Rde at h5 ⊢
    rw [h10, e 41 rfl (by decide), e 70 rfl (by decide)]; exact h5
  · rw [e 30 rfl (by decide), e 31 rfl (by decide), e 32 rfl (by decide), e 51 rfl (by decide), e 47 rfl (by decide), e 50 rfl (by decide)]
    exact Rpa_eq h6 h8 (fun _ _ => rfl)
set_option maxRecDepth 100000 in
theorem RdF_sh {u v : Mm} (k : RdF u v) (h : hSh u) : hSh v := by
  unfold hSh at h ⊢
  rw [k.1, k.2.1, k.2.2.1]; exact h
set_option maxRecDepth 100000 in
theorem tap_of {u : Mm} (h : Rel LR u) : ∃ n, n ≤ 400 ∧ mI u 0 12 = nI n ∧ Tap u (mI u 42) n ∧ ∀ i, i < n → rg (mI u 42 i) 0 255 := by
  obtain ⟨h1, h2, h3, h4, -⟩ := h
  obtain ⟨n, n1, n2⟩ := rg_nI h3.2.2.2.2.2.2.1 (by decide)
  have n1 : n ≤ 400 := n1
  exact ⟨n, n1, n2, ⟨h1, n1, h3.2.2.2.2.1.symm.trans n2, fun i hi => (h4 i (by omega)).1.symm⟩, fun i hi => (h4 i (by omega)).2⟩
set_option maxRecDepth 100000 in
theorem tap_mv {u v : Mm} {T : Nat → Int32} {n : Nat} (h : Tap u T n) (hS : hSh v) (h13 : mI v 45 13 = mI u 45 13) (h54 : mI v 54 = mI u 54) : Tap v T n := ⟨hS, h.2.1, h13.trans h.2.2.1, fun i hi => by rw [h54]; exact h.2.2.2 i hi⟩
set_option maxRecDepth 100000 in
theorem row_lo {W : Mm} {a n nc nl i : Nat} (hi : i < a + 1) (h2 : i ≠ 2) : rowF W a n nc nl i = mI W 47 i := by
  unfold rowF r2F r1F
  rw [pk_un h2, if_neg (by omega), if_neg (by omega), pk_un (by omega)]
set_option maxRecDepth 100000 in
theorem row_1 {W : Mm} {a n nc nl : Nat} (ha : 2 < a) : rowF W a n nc nl (a + 1) = nI n := by
  unfold rowF r2F r1F
  rw [pk_un (by omega), if_neg (by omega), if_neg (by omega), pk_us]
set_option maxRecDepth 100000 in
theorem row_55 {W : Mm} {a n nc nl i : Nat} (ha : 2 < a) (hn : n ≤ 12) (hi : i < 8 * n) : rowF W a n nc nl (a + 2 + i) = mI W 55 i := by
  unfold rowF r2F r1F
  rw [pk_un (by omega), if_neg (by omega), if_pos (by omega), show a + 2 + i - (a + 2) = i by omega]
set_option maxRecDepth 100000 in
theorem row_56 {W : Mm} {a n nc nl i : Nat} (ha : 2 < a) (hi : i < nc) : rowF W a n nc nl (a + 98 + 2 * i) = mI W 56 i ∧ rowF W a n nc nl (a + 99 + 2 * i) = mI W 57 i := by
  unfold rowF r2F
  constructor
  · rw [pk_un (by omega), if_pos (by omega), if_pos (by omega), show (a + 98 + 2 * i - (a + 98)) / 2 = i by omega]
  · rw [pk_un (by omega), if_pos (by omega), if_neg (by omega), show (a + 99 + 2 * i - (a + 98)) / 2 = i by omega]
set_option maxRecDepth 100000 in
/-- the row tells the law -/
theorem RLaw_new {c m W : Mm} {cd wt : Nat → Int32} {L a nc nl : Nat} {A : LawA} (hI : LI c m cd wt L (mI W 56) (mI W 57) nc A) (h55 : mI W 55 = mI m 55) (ha : 2 < a) (hA : aC A ≤ 12) (hnc : nc ≤ 400) : RLaw (fun x => rowF W a (aC A) nc nl (a + x)) A := by
  refine ⟨row_1 ha, hA, fun j hj => ?_⟩
  obtain ⟨i1, i2, i3, -, i5, i6, i7, i8⟩ := hI j hj
  have r55 : ∀ i, i < 8 → rowF W a (aC A) nc nl (a + (2 + 8 * j + i)) = mI m 55 (8 * j + i) := by
    intro i hi
    rw [show a + (2 + 8 * j + i) = a + 2 + (8 * j + i) by omega, row_55 ha hA (by omega), h55]
  have eo : ∀ i, i < nc → (fun k => rowF W a (aC A) nc nl (a + (98 + 2 * k))) i = mI W 56 i ∧ (fun k => rowF W a (aC A) nc nl (a + (99 + 2 * k))) i = mI W 57 i := by
    intro i hi
    show rowF W a (aC A) nc nl (a + (98 + 2 * i)) = _ ∧ rowF W a (aC A) nc nl (a + (99 + 2 * i)) = _
    rw [show a + (98 + 2 * i) = a + 98 + 2 * i by omega, show a + (99 + 2 * i) = a + 99 + 2 * i by omega]
    exact row_56 ha hi
  refine ⟨?_, i1, fun ht => ?_, fun ht => ?_, fun h3 => ?_⟩
  · exact (r55 0 (by decide)).trans i5
  · obtain ⟨x, y, a1, a2, a3, a4⟩ := i6 ht
    exact ⟨x, y, (r55 5 (by decide)).trans a2, (r55 6 (by decide)).trans a3, SegR_up a4 a1 eo⟩
  · obtain ⟨x, a1, a2, a3⟩ := i7 ht
    exact ⟨x, a1, (r55 5 (by decide)).trans a2, (r55 6 (by decide)).trans a3⟩
  · obtain ⟨x, y, a1, a2, a3, a4⟩ := i8 h3
    exact ⟨x, y, (r55 3 (by decide)).trans a2, (r55 4 (by decide)).trans a3, SegR_up a4 a1 eo⟩
set_option maxRecDepth 100000 in
/-- the new text tells the law -/
theorem CLaw_new {c m v : Mm} {cd wt op ar : Nat → Int32} {L nc t : Nat} {A : LawA} (hI : LI c m cd wt L op ar nc A) (hA : aC A ≤ 12) (hL : L ≤ 401) (k0 : mK v t = (6, 7)) (k1 : mK v (t + 1) = (10, L)) (k2 : mK v (t + 2) = (10, L)) (k3 : mK v (t + 3) = (10, aC A)) (k5 : mK v (t + 5) = (10, 4 * aC A)) (q0 : mR v t 0 = some (t + 1)) (q1 : mR v t 1 = some (t + 2)) (q3 : mR v t 3 = some (t + 3)) (q4 : mR v t 4 = some (t + 4)) (q5 : mR v t 5 = some (t + 5)) (f2 : mI v t 2 = nI L) (f6 : mI v t 6 = nI (aC A)) (fc : ∀ i, i < L → mI v (t + 1) i = cd i ∧ mI v (t + 2) i = wt i) (f3 : ∀ i, i < aC A → mI v (t + 3) i = mI c 26 i) (f5 : ∀ i, i < 4 * aC A → mI v (t + 5) i = mI c 28 i) : CLaw v t A := by
  have sg : ∀ f a, SegC cd wt L f a → SegV v t f a := by
    intro f a ⟨b, p, h1, h2, h3, h4⟩
    have tx : ∀ lo hi, hi ≤ L → TX v t cd wt lo hi := fun lo hi hh => ⟨k0, L, t + 1, t + 2, L, L, f2, hh, q0, q1, k1, k2, Nat.le_refl L, Nat.le_refl L, hL, hL, fun i i1 i2 => fc i (by omega)⟩
    refine ⟨cd, wt, b, p, h1, h3, tx a b h2, ?_⟩
    rcases h4 with z | ⟨z1, z2⟩
    · exact Or.inl (by rw [z]; exact f2)
    · exact Or.inr ⟨wt, TX_eq (tx b (b + 1) (by omega)) (fun i i1 i2 => ⟨by rw [show i = b by omega]; exact z2, rfl⟩)⟩
  refine ⟨⟨k0, q0, q1, q3, q4, q5⟩, hA, f6, ⟨aC A, 4 * aC A, k3, k5, Nat.le_refl _, Nat.le_refl _, by omega, by omega⟩, fun r hr => ?_⟩
  obtain ⟨i1, i2, i3, ⟨i4, i5, i6, i7⟩, -⟩ := hI r hr
  refine ⟨(f3 r hr).trans i4, i1, fun ht => ?_, fun ht => (f5 _ (by omega)).trans (i6 ht), fun h3 => ?_⟩
  · obtain ⟨a, a1, a2, a3⟩ := i5 ht
    exact ⟨a, by omega, (f5 _ (by omega)).trans a2, sg _ _ a3⟩
  · obtain ⟨a, a1, a2, a3⟩ := i7 h3
    exact ⟨a, by omega, (f5 _ (by omega)).trans a2, sg _ _ a3⟩
set_option maxRecDepth 100000 in
theorem AOK_new {c m : Mm} {cd wt op ar : Nat → Int32} {L nc : Nat} {A : LawA} (hI : LI c m cd wt L op ar nc A) : AOK A := fun r hr W => ⟨(hI r hr).2.1 W, (hI r hr).2.2.1 W⟩
set_option maxRecDepth 100000 in
/-- one law more -/
theorem LR_add {u v : Mm} {nl : Nat} {A : LawA} (hS : hSh u) (h : LR u) (hl : nl < 6) (e14 : mI u 1 14 = nI nl) (hN : mN u + 6 ≤ mN v) (hK : ∀ a, a < mN u → mK v a = mK u a) (hI : ∀ a, 71 ≤ a → a < mN u → mI v a = mI u a) (hR : ∀ a, a < mN u → a ≠ 12 → mR v a = mR u a) (h12 : ∀ i, mR v 12 i = if i = nl then some (mN u) else mR u 12 i) (v14 : mI v 1 14 = nI (nl + 1)) (h48 : mI v 48 = mI u 48) (h49 : mI v 49 = mI u 49) (hrow : ∀ i, 130 ≤ i → i < 130 + 900 * nl → mI v 47 i = mI u 47 i) (kt : (mK v (mN u)).1 = 6) (hC : CLaw v (mN u) A) (hRL : RLaw (fun x => mI v 47 (130 + 900 * nl + x)) A) (hA : AOK A) : LR v := by
  have N71 : 71 ≤ mN u := hS.1
  obtain ⟨⟨n, n1, n2, n3, n4⟩, i0, i1, dj⟩ := h
  have en : n = nl := (nI_eq (by omega) (by omega)).mp (n1.symm.trans e14)
  subst en
  have R29 : mR v 29 = mR u 29 := hR 29 (by omega) (by decide)
  have im_lt : ∀ k b, k < 2 → mR u 29 k = some b → b + 11 < mN u ∧ 71 ≤ b := by
    intro k b hk hb
    have : IMk u k := by
      rcases (show k = 0 ∨ k = 1 by omega) with rfl | rfl
      · exact i0
      · exact i1
    rcases this with ⟨-, w⟩ | ⟨-, b', n', w1, w2, w3, -⟩
    · rw [hb] at w; cases w
    · rw [hb] at w1
      have := Option.some.inj w1
      subst this
      exact ⟨BkSh_lt w3, w2⟩
  have k6 : ∀ t, (mK u t).1 = 6 → (mK v t).1 = 6 := by
    intro t z
    have lt : t < mN u := mK_lt (k := (mK u t).1) (N := (mK u t).2) rfl (by rw [z]; decide)
    rw [hK t lt]; exact z
  have cl : ∀ t A', 71 ≤ t → CLaw u t A' → CLaw v t A' := by
    intro t A' ht hc
    have lt := CLaw_lt hc
    exact CLaw_at hc (fun a a1 a2 => ⟨hK a (by omega), hR a (by omega) (by omega), hI a (by omega) (by omega)⟩)
  have im : ∀ k, k < 2 → IMk u k → IMk v k := by
    intro k hk hi
    rcases hi with ⟨w1, w2⟩ | ⟨w1, b, n', w2, w3, w4, w5, w6, w7⟩
    · exact Or.inl ⟨by rw [h49]; exact w1, by rw [R29]; exact w2⟩
    · have lt := BkSh_lt w4
      refine Or.inr ⟨by rw [h49]; exact w1, b, n', by rw [R29]; exact w2, w3, ?_, ?_, by rw [hI b w3 (by omega)]; exact w6, ?_⟩
      · unfold BkSh at w4 ⊢
        rw [hK b (by omega), hK (b + 1) (by omega), hK (b + 2) (by omega), hK (b + 3) (by omega), hK (b + 4) (by omega), hK (b + 5) (by omega), hK (b + 6) (by omega), hK (b + 7) (by omega), hK (b + 8) (by omega), hK (b + 9) (by omega), hK (b + 10) (by omega), hK (b + 11) (by omega), hR b (by omega) (by omega), hR (b + 1) (by omega) (by omega)]
        exact w4
      · rw [h48]
        exact Rbk_eq w5 (fun j hj => hI (b + j) (by omega) (by omega)) (fun _ _ => rfl)
      · rw [h48]
        refine BL_mv w7 (fun i _ => by rw [hR (b + 11) (by omega) (by omega)]) (fun t _ => k6 t) (fun t _ => k6 t) (fun t A' ht hc hd => ⟨cl t A' ht hc, ?_⟩) (fun _ _ => rfl)
        rw [R29]; exact hd
  refine ⟨⟨n + 1, v14, by omega, fun i hi => ?_, fun i hi => ?_⟩, im 0 (by decide) i0, im 1 (by decide) i1, by rw [R29]; exact dj⟩
  · rw [h12]
    by_cases z : i = n
    · rw [if_pos z]; exact Or.inr ⟨mN u, rfl, kt⟩
    · rw [if_neg z]
      rcases n3 i hi with w | ⟨t, w1, w2⟩
      · exact Or.inl w
      · exact Or.inr ⟨t, w1, k6 t w2⟩
  · rw [h12]
    by_cases z : i = n
    · subst z
      rw [if_pos rfl]
      refine ⟨mN u, rfl, ⟨N71, A, hC, hRL, hA⟩, fun k b hk hb => ?_⟩
      rw [R29] at hb
      exact Or.inr (im_lt k b hk hb).1
    · rw [if_neg z]
      obtain ⟨t, t1, ⟨t2, A', a1, a2, a3⟩, t3⟩ := n4 i (by omega)
      refine ⟨t, t1, ⟨t2, A', cl t A' t2 a1, RLaw_eq a2 (fun x hx => hrow _ (by omega) (by omega)), a3⟩, ?_⟩
      rw [R29]; exact t3
