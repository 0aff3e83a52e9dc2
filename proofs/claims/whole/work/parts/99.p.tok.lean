/-! ===== the tokens fit together ===== -/
set_option maxRecDepth 100000 in
theorem wKg_s (T : Nat → Int32) (a b r j : Nat) : wKg T a b (r + 1) j = if mt T a b j then nI (256 + j) else wKg T a b r (j + 1) := rfl
def wKd (T : Nat → Int32) (a b : Nat) : Int32 := wKg T a b 28 0
set_option maxRecDepth 100000 in
theorem wKg_rg {T : Nat → Int32} {a b : Nat} : ∀ r j, j + r = 28 → (∃ i, j ≤ i ∧ i < 28 ∧ wKg T a b r j = nI (256 + i) ∧ mt T a b i) ∨ (wKg T a b r j = 284 ∧ ∀ i, j ≤ i → i < 28 → ¬ mt T a b i)
  | 0, j, h => Or.inr ⟨rfl, fun i h1 h2 => absurd h2 (by omega)⟩
  | r + 1, j, h => by
    rw [wKg_s]
    by_cases z : mt T a b j
    · rw [if_pos z]; exact Or.inl ⟨j, Nat.le_refl j, by omega, rfl, z⟩
    · rw [if_neg z]
      rcases wKg_rg r (j + 1) (by omega) with ⟨i, i1, i2, i3, i4⟩ | ⟨i1, i2⟩
      · exact Or.inl ⟨i, by omega, i2, i3, i4⟩
      · refine Or.inr ⟨i1, fun i h1 h2 => ?_⟩
        by_cases e : i = j
        · rw [e]; exact z
        · exact i2 i (by omega) h2
set_option maxRecDepth 100000 in
theorem wdc_inj : ∀ i, i < 28 → ∀ j, j < 28 → wdc.getD i 0 = wdc.getD j 0 → i = j := by decide +kernel
set_option maxRecDepth 100000 in
theorem wKd_iff {T : Nat → Int32} {a b : Nat} (hab : a ≤ b) (h : ∀ i, i < b - a → srt (T (a + i)) = 1) {i : Nat} (hi : i < 28) : wKd T a b = nI (256 + i) ↔ enc T a (b - a) = wdc.getD i 0 := by
  rw [wd_mt hi hab h]
  unfold wKd
  rcases wKg_rg (T := T) (a := a) (b := b) 28 0 (by decide) with ⟨j, j1, j2, j3, j4⟩ | ⟨j1, j2⟩
  · rw [j3]
    constructor
    · intro e
      have := (nI_eq (by omega) (by omega)).mp e
      rw [show i = j by omega]; exact j4
    · intro e
      have e1 := (wd_mt hi hab h).mpr e
      have e2 := (wd_mt j2 hab h).mpr j4
      rw [wdc_inj i hi j j2 (e1.symm.trans e2)]
  · rw [j1]
    constructor
    · intro e
      exact absurd ((nI_eq (a := 284) (by decide) (by omega)).mp e) (by omega)
    · intro e
      exact absurd e (j2 i (by omega) hi)
set_option maxRecDepth 100000 in
theorem wKd_lo {T : Nat → Int32} {a b : Nat} : ∃ x, 256 ≤ x ∧ x ≤ 284 ∧ wKd T a b = nI x := by
  unfold wKd
  rcases wKg_rg (T := T) (a := a) (b := b) 28 0 (by decide) with ⟨j, j1, j2, j3, j4⟩ | ⟨j1, j2⟩
  · exact ⟨256 + j, by omega, by omega, j3⟩
  · exact ⟨284, by decide, by decide, j1⟩
def teK (T : Nat → Int32) (n k : Nat) : Nat := if stK T n k < n then tokE T n (stK T n k) else n
/-- of a token that begins there -/
def oAt_ (T : Nat → Int32) (n s : Nat) : Int32 := if s < n then (if srt (T s) = 1 then 1 else if srt (T s) = 2 then 2 else 3) else 0
def wAt_ (T : Nat → Int32) (n s : Nat) : Int64 := if s < n then (if srt (T s) = 1 then enc T s (tokE T n s - s) else if srt (T s) = 2 then nR T s (tokE T n s - s) else Int32.toInt64 (T s)) else 0
def kAt_ (T : Nat → Int32) (n s : Nat) : Int32 := if s < n then (if srt (T s) = 1 then wKd T s (tokE T n s) else if srt (T s) = 2 then 285 else T s) else 286
def vAt_ (T : Nat → Int32) (n s : Nat) : Int32 := if s < n then (if srt (T s) = 2 then nC T s (tokE T n s - s) else 0) else 0
def tkOf (T : Nat → Int32) (n : Nat) : Tk := (tkM T n, stK T n, teK T n, fun k => oAt_ T n (stK T n k), fun k => wAt_ T n (stK T n k), fun k => kAt_ T n (stK T n k), fun k => vAt_ T n (stK T n k))
set_option maxRecDepth 100000 in
theorem srt_in (x : Int32) : srt x = 1 ∨ srt x = 2 ∨ srt x = 0 := by
  unfold srt
  split
  · exact Or.inl rfl
  · split
    · exact Or.inr (Or.inl rfl)
    · exact Or.inr (Or.inr rfl)
set_option maxRecDepth 100000 in
theorem tok_all {T : Nat → Int32} {n s : Nat} (hs : s < n) (h0 : ¬ srt (T s) = 0) : ∀ i, i < tokE T n s - s → srt (T (s + i)) = srt (T s) := by
  intro i hi
  unfold tokE at hi
  rw [if_neg h0] at hi
  by_cases z : i = 0
  · subst z; rfl
  · exact (runE_all (n := n) (s := srt (T s)) (n - (s + 1)) (s + 1) (s + i) (by omega) (by omega)).2
set_option maxRecDepth 100000 in
theorem toInt64_inj {x y : Int32} (h : x.toInt64 = y.toInt64) : x = y := by
  have := congrArg Int64.toInt h
  rw [Int32.toInt_toInt64, Int32.toInt_toInt64] at this
  exact Int32.toInt_inj.mp this
set_option maxRecDepth 100000 in
theorem TkO_of {T : Nat → Int32} {n : Nat} (hn : n ≤ 400) (hT : ∀ i, i < n → rg (T i) 0 255) : TkO (tkOf T n) := by
  obtain ⟨m1, m2, m3⟩ := tkM_p (T := T) (n := n)
  have lo : ∀ s, s < n → ∃ x, x ≤ 255 ∧ T s = nI x := fun s hs => rg_nI (hT s hs) (by decide)
  have sg : ∀ x, x ∈ sgs → srt x = 0 ∧ ∃ y, y ≤ 255 ∧ x = nI y := by
    intro x hx
    unfold sgs at hx
    simp only [List.mem_cons, List.not_mem_nil, or_false] at hx
    rcases hx with rfl | rfl | rfl | rfl | rfl | rfl | rfl | rfl | rfl | rfl | rfl | rfl | rfl
    · exact ⟨by decide, 91, by decide, rfl⟩
    · exact ⟨by decide, 93, by decide, rfl⟩
    · exact ⟨by decide, 40, by decide, rfl⟩
    · exact ⟨by decide, 41, by decide, rfl⟩
    · exact ⟨by decide, 43, by decide, rfl⟩
    · exact ⟨by decide, 45, by decide, rfl⟩
    · exact ⟨by decide, 42, by decide, rfl⟩
    · exact ⟨by decide, 47, by decide, rfl⟩
    · exact ⟨by decide, 37, by decide, rfl⟩
    · exact ⟨by decide, 60, by decide, rfl⟩
    · exact ⟨by decide, 61, by decide, rfl⟩
    · exact ⟨by decide, 62, by decide, rfl⟩
    · exact ⟨by decide, 59, by decide, rfl⟩
  refine ⟨show tkM T n ≤ 400 by omega, fun j hj x hx => ?_, fun j hj i hi => ?_, fun j hj => ?_, fun j hj => ?_, ?_, fun j hj => ?_, fun j hj => ?_⟩
  · show (oAt_ T n (stK T n j) = 3 ∧ wAt_ T n (stK T n j) = x.toInt64) ↔ kAt_ T n (stK T n j) = x
    obtain ⟨s0, y, y1, y2⟩ := sg x hx
    unfold oAt_ wAt_ kAt_
    by_cases c : stK T n j < n
    · rw [if_pos c, if_pos c, if_pos c]
      rcases srt_in (T (stK T n j)) with z | z | z
      · rw [if_pos z, if_pos z, if_pos z]
        obtain ⟨w, w1, w2, w3⟩ := wKd_lo (T := T) (a := stK T n j) (b := tokE T n (stK T n j))
        rw [w3, y2]
        exact ⟨fun e => absurd e.1 (by decide), fun e => absurd ((nI_eq (by omega) (by omega)).mp e) (by omega)⟩
      · have n1 : ¬ srt (T (stK T n j)) = 1 := by rw [z]; decide
        rw [if_neg n1, if_neg n1, if_neg n1, if_pos z, if_pos z, if_pos z, y2]
        exact ⟨fun e => absurd e.1 (by decide), fun e => absurd ((nI_eq (a := 285) (by decide) (by omega)).mp e) (by omega)⟩
      · have n1 : ¬ srt (T (stK T n j)) = 1 := by rw [z]; decide
        have n2 : ¬ srt (T (stK T n j)) = 2 := by rw [z]; decide
        rw [if_neg n1, if_neg n1, if_neg n1, if_neg n2, if_neg n2, if_neg n2]
        exact ⟨fun e => toInt64_inj e.2, fun e => ⟨rfl, by rw [e]⟩⟩
    · rw [if_neg c, if_neg c, if_neg c, y2]
      exact ⟨fun e => absurd e.1 (by decide), fun e => absurd ((nI_eq (a := 286) (by decide) (by omega)).mp e) (by omega)⟩
  · show (oAt_ T n (stK T n j) = 1 ∧ wAt_ T n (stK T n j) = wdc.getD i 0) ↔ kAt_ T n (stK T n j) = nI (256 + i)
    unfold oAt_ wAt_ kAt_
    by_cases c : stK T n j < n
    · rw [if_pos c, if_pos c, if_pos c]
      rcases srt_in (T (stK T n j)) with z | z | z
      · have n0 : ¬ srt (T (stK T n j)) = 0 := by rw [z]; decide
        rw [if_pos z, if_pos z, if_pos z, wKd_iff (by have := (tokE_b (T := T) c).1; omega) (fun r hr => by rw [tok_all c n0 r hr]; exact z) hi]
        exact ⟨fun e => e.2, fun e => ⟨rfl, e⟩⟩
      · have n1 : ¬ srt (T (stK T n j)) = 1 := by rw [z]; decide
        rw [if_neg n1, if_neg n1, if_neg n1, if_pos z, if_pos z, if_pos z]
        exact ⟨fun e => absurd e.1 (by decide), fun e => absurd ((nI_eq (a := 285) (by decide) (by omega)).mp e) (by omega)⟩
      · have n1 : ¬ srt (T (stK T n j)) = 1 := by rw [z]; decide
        have n2 : ¬ srt (T (stK T n j)) = 2 := by rw [z]; decide
        obtain ⟨w, w1, w2⟩ := lo _ c
        rw [if_neg n1, if_neg n1, if_neg n1, if_neg n2, if_neg n2, if_neg n2, w2]
        exact ⟨fun e => absurd e.1 (by decide), fun e => absurd ((nI_eq (by omega) (by omega)).mp e) (by omega)⟩
    · rw [if_neg c, if_neg c, if_neg c]
      exact ⟨fun e => absurd e.1 (by decide), fun e => absurd ((nI_eq (a := 286) (by decide) (by omega)).mp e) (by omega)⟩
  · show (oAt_ T n (stK T n j) = 2 ↔ kAt_ T n (stK T n j) = 285) ∧ (kAt_ T n (stK T n j) = 285 → (∃ x, x ≤ 1000 ∧ vAt_ T n (stK T n j) = nI x ∧ wAt_ T n (stK T n j) = w64 x) ∨ (vAt_ T n (stK T n j) = nI 1001 ∧ ∃ y, 1000 < y ∧ y < 2147483648 ∧ wAt_ T n (stK T n j) = w64 y)) ∧ (kAt_ T n (stK T n j) ≠ 285 → vAt_ T n (stK T n j) = 0)
    unfold oAt_ wAt_ kAt_ vAt_
    by_cases c : stK T n j < n
    · rw [if_pos c, if_pos c, if_pos c, if_pos c]
      rcases srt_in (T (stK T n j)) with z | z | z
      · obtain ⟨w, w1, w2, w3⟩ := wKd_lo (T := T) (a := stK T n j) (b := tokE T n (stK T n j))
        have n2 : ¬ srt (T (stK T n j)) = 2 := by rw [z]; decide
        have n285 : ¬ nI w = 285 := fun e => absurd ((nI_eq (b := 285) (by omega) (by decide)).mp e) (by omega)
        rw [if_pos z, if_pos z, if_pos z, if_neg n2, w3]
        exact ⟨⟨fun e => absurd e (by decide), fun e => absurd e n285⟩, fun e => absurd e n285, fun _ => rfl⟩
      · have n1 : ¬ srt (T (stK T n j)) = 1 := by rw [z]; decide
        have n0 : ¬ srt (T (stK T n j)) = 0 := by rw [z]; decide
        rw [if_neg n1, if_neg n1, if_neg n1, if_pos z, if_pos z, if_pos z, if_pos z]
        refine ⟨⟨fun _ => rfl, fun _ => rfl⟩, fun _ => ?_, fun e => absurd rfl e⟩
        rcases num_rel (T := T) (a := stK T n j) (tokE T n (stK T n j) - stK T n j) (fun r hr => by rw [tok_all c n0 r hr]; exact z) with h | ⟨h, y, y1, y2, y3⟩
        · exact Or.inl h
        · exact Or.inr ⟨h, y, y1, by omega, y3⟩
      · have n1 : ¬ srt (T (stK T n j)) = 1 := by rw [z]; decide
        have n2 : ¬ srt (T (stK T n j)) = 2 := by rw [z]; decide
        obtain ⟨w, w1, w2⟩ := lo _ c
        have n285 : ¬ nI w = 285 := fun e => absurd ((nI_eq (b := 285) (by omega) (by decide)).mp e) (by omega)
        rw [if_neg n1, if_neg n1, if_neg n1, if_neg n2, if_neg n2, if_neg n2, if_neg n2, w2]
        exact ⟨⟨fun e => absurd e (by decide), fun e => absurd e n285⟩, fun e => absurd e n285, fun _ => rfl⟩
    · rw [if_neg c, if_neg c, if_neg c, if_neg c]
      exact ⟨⟨fun e => absurd e (by decide), fun e => absurd e (by decide)⟩, fun e => absurd e (by decide), fun _ => rfl⟩
  · show kAt_ T n (stK T n j) ≠ 286
    have c := m1 j hj
    unfold kAt_
    rw [if_pos c]
    rcases srt_in (T (stK T n j)) with z | z | z
    · obtain ⟨w, w1, w2, w3⟩ := wKd_lo (T := T) (a := stK T n j) (b := tokE T n (stK T n j))
      rw [if_pos z, w3]
      exact fun e => absurd ((nI_eq (b := 286) (by omega) (by decide)).mp e) (by omega)
    · rw [if_neg (by rw [z]; decide), if_pos z]; decide
    · obtain ⟨w, w1, w2⟩ := lo _ c
      rw [if_neg (by rw [z]; decide), if_neg (by rw [z]; decide), w2]
      exact fun e => absurd ((nI_eq (b := 286) (by omega) (by decide)).mp e) (by omega)
  · show kAt_ T n (stK T n (tkM T n)) = 286
    unfold kAt_
    rw [m2, if_neg (by omega)]
  · show oAt_ T n (stK T n j) = 0 ↔ j = tkM T n
    have hj' : j ≤ tkM T n := hj
    unfold oAt_
    by_cases c : stK T n j < n
    · rw [if_pos c]
      constructor
      · intro e
        rcases srt_in (T (stK T n j)) with z | z | z
        · rw [if_pos z] at e; exact absurd e (by decide)
        · rw [if_neg (by rw [z]; decide), if_pos z] at e; exact absurd e (by decide)
        · rw [if_neg (by rw [z]; decide), if_neg (by rw [z]; decide)] at e; exact absurd e (by decide)
      · intro e
        rw [e, m2] at c; omega
    · rw [if_neg c]
      refine ⟨fun _ => ?_, fun _ => rfl⟩
      apply Classical.byContradiction
      intro w
      exact c (m1 j (by omega))
  · show stK T n j ≤ 400
    have := stK_le (T := T) (n := n) j
    omega
