/-! ===== posts ===== -/
def dN (o c : Nat) : Nat := (o - c) + (c - o)
def sIn (k r o : Nat) : Nat → Nat → Nat → Nat
  | 0, _, m => m
  | n + 1, c, m => sIn k r o n (c + 1) (if bitN k o = 1 ∧ dN o c ≤ r then m ||| 2 ^ c else m)
def sOut (k r : Nat) : Nat → Nat → Nat → Nat
  | 0, _, m => m
  | n + 1, o, m => sOut k r n (o + 1) (sIn k r o 8 0 m)
def qIn (k c r : Nat) : Nat → Nat → Bool → Bool
  | 0, _, s => s
  | n + 1, o, s => qIn k c r n (o + 1) (s || (decide (bitN k o = 1) && decide (dN o c ≤ r)))
def qAll (k r : Nat) : Nat → Nat → Bool
  | 0, _ => true
  | n + 1, c => qIn k c r 8 0 false && qAll k r n (c + 1)
def allBelow (f : Nat → Bool) : Nat → Bool
  | 0 => true
  | n + 1 => f n && allBelow f n
set_option maxRecDepth 100000 in
theorem allBelow_of {f : Nat → Bool} : ∀ n, allBelow f n = true → ∀ k, k < n → f k = true
  | 0, _, k, hk => absurd hk (Nat.not_lt_zero k)
  | n + 1, h, k, hk => by
    have h2 : (f n && allBelow f n) = true := h
    rw [Bool.and_eq_true] at h2
    by_cases e : k = n
    · rw [e]; exact h2.1
    · exact allBelow_of n h2.2 k (by omega)
set_option maxRecDepth 100000 in
theorem sq_all : allBelow (fun r => allBelow (fun k => Nat.beq (sOut k r 8 0 0) 255 == qAll k r 8 0) 256) 8 = true := by decide +kernel
set_option maxRecDepth 100000 in
theorem sq_eq {k r : Nat} (hk : k < 256) (hr : r < 8) : decide (sOut k r 8 0 0 = 255) = qAll k r 8 0 := by
  have e := eq_of_beq (allBelow_of 256 (allBelow_of 8 sq_all r hr) k hk)
  rw [← e]
  by_cases c : sOut k r 8 0 0 = 255
  · rw [decide_eq_true c, c]; rfl
  · rw [decide_eq_false c]
    cases q : Nat.beq (sOut k r 8 0 0) 255
    · rfl
    · exact absurd (Nat.eq_of_beq_eq_true q) c
set_option maxRecDepth 100000 in
theorem or_nI : ∀ m, m < 256 → ∀ c, c < 8 → nI m ||| ((1 : Int32) <<< (nI c &&& 31)) = nI (m ||| 2 ^ c) := by decide +kernel
set_option maxRecDepth 100000 in
theorem dst_iff : ∀ r, r < 8 → ∀ o, o < 8 → ∀ c, c < 8 → (nI r < iabs (nI o - nI c) ↔ ¬ dN o c ≤ r) := by decide +kernel
set_option maxRecDepth 100000 in
theorem or_lt {m c : Nat} (hm : m < 256) (hc : c < 8) : m ||| 2 ^ c < 256 := Nat.or_lt_two_pow (n := 8) hm (Nat.pow_lt_pow_right (by decide) hc)
set_option maxRecDepth 100000 in
theorem sIn_lt {k r o : Nat} : ∀ n c m, c + n = 8 → m < 256 → sIn k r o n c m < 256
  | 0, _, _, _, hm => hm
  | n + 1, c, m, hc, hm => by
    show sIn k r o n (c + 1) (if bitN k o = 1 ∧ dN o c ≤ r then m ||| 2 ^ c else m) < 256
    apply sIn_lt n
    · omega
    · split
      · exact or_lt hm (by omega)
      · exact hm
set_option maxRecDepth 100000 in
theorem sOut_lt {k r : Nat} : ∀ n o m, m < 256 → sOut k r n o m < 256
  | 0, _, _, hm => hm
  | n + 1, o, m, hm => sOut_lt n (o + 1) _ (sIn_lt 8 0 m (by decide) hm)
set_option maxRecDepth 100000 in
theorem c_sin {u : Mm} {K : Mm → Int32 → Int32 → Int32 → Int32 → Option (Int32 × Mm)} {k r o : Nat} (hk : k < 256) (hr : r < 8) (ho : o < 8) {N : Nat} : ∀ n c m, c + n = 8 → m < 256 → rX2_seesAll_13 K (N + n + 1) u (nI k) (nI r) (nI m) (nI o) (nI c) = K u (nI k) (nI r) (nI (sIn k r o n c m)) (nI (o + 1)) := by
  intro n
  induction n with
  | zero =>
    intro c m hc hm
    show bX2_seesAll_13 K _ u (nI k) (nI r) (nI m) (nI o) (nI c) = _
    unfold bX2_seesAll_13
    rw [if_pos (show (8 : Int32) ≤ nI c from nI_le (a := 8) (by omega) (by omega)), nI_1]
    rfl
  | succ n ih =>
    intro c m hc hm
    show bX2_seesAll_13 K (rX2_seesAll_13 K (N + n + 1)) u (nI k) (nI r) (nI m) (nI o) (nI c) = _
    unfold bX2_seesAll_13 bX2_seesAll_47
    rw [if_neg (show ¬ (8 : Int32) ≤ nI c from nI_ge (b := 8) (by omega) (by decide)), nI_1]
    show _ = K u (nI k) (nI r) (nI (sIn k r o n (c + 1) (if bitN k o = 1 ∧ dN o c ≤ r then m ||| 2 ^ c else m))) (nI (o + 1))
    by_cases c1 : bitN k o = 1
    · rw [if_pos ((bit_iff hk ho).mpr c1), c_abs, oB_of]
      by_cases c2 : dN o c ≤ r
      · rw [if_neg (fun q => (dst_iff r hr o ho c (by omega)).mp q c2), oI_of, or_nI m hm c (by omega), if_pos ⟨c1, c2⟩]
        exact ih (c + 1) _ (by omega) (or_lt hm (by omega))
      · rw [if_pos ((dst_iff r hr o ho c (by omega)).mpr c2), if_neg (fun q => c2 q.2)]
        exact ih (c + 1) _ (by omega) hm
    · rw [if_neg (fun q => c1 ((bit_iff hk ho).mp q)), if_neg (fun q => c1 q.1)]
      exact ih (c + 1) _ (by omega) hm
set_option maxRecDepth 100000 in
theorem c_sees {u : Mm} {k r : Nat} (hk : k < 256) (hr : r < 8) : fX2_seesAll u (nI k) (nI r) = some (if sOut k r 8 0 0 = 255 then 1 else 0, u) := by
  have st : ∀ (N n o m : Nat), o + n = 8 → m < 256 → rX2_seesAll_4 (N + n + 1) u (nI k) (nI r) (nI m) (nI o) = some (if sOut k r n o m = 255 then 1 else 0, u) := by
    intro N n
    induction n with
    | zero =>
      intro o m ho hm
      show bX2_seesAll_4 _ u (nI k) (nI r) (nI m) (nI o) = _
      unfold bX2_seesAll_4 bX2_seesAll_71
      rw [if_pos (show (8 : Int32) ≤ nI o from nI_le (a := 8) (by omega) (by omega))]
      show _ = some (if m = 255 then 1 else 0, u)
      by_cases c : m = 255
      · rw [if_pos c, if_pos (by rw [c]; decide), oZ1]
      · rw [if_neg c, if_neg (show ¬ nI m = 255 from fun q => c ((nI_eq (b := 255) (by omega) (by decide)).mp q)), oZ0]
    | succ n ih =>
      intro o m ho hm
      show bX2_seesAll_4 (rX2_seesAll_4 (N + n + 1)) u (nI k) (nI r) (nI m) (nI o) = _
      unfold bX2_seesAll_4
      rw [if_neg (show ¬ (8 : Int32) ≤ nI o from nI_ge (b := 8) (by omega) (by decide))]
      have q := c_sin (u := u) (K := rX2_seesAll_4 (N + n + 1)) hk hr (show o < 8 by omega) (N := 999991) 8 0 m (by decide) hm
      exact q.trans (ih (o + 1) _ (by omega) (sIn_lt 8 0 m (by decide) hm))
  exact st 999991 8 0 0 (by decide) (by decide)
set_option maxRecDepth 100000 in
theorem c_posts {u : Mm} {rc : Nat} (hrc : rc < 8) {N : Nat} : ∀ (r k : Nat) (b : Option Nat), k + r = 256 → bok b → rX2_columnsForPosts_4 (N + r + 1) u (nI rc) (bi b) (nI k) = some (bi (bgo (fun k => qAll k rc 8 0) r k b), u) := by
  intro r
  induction r with
  | zero =>
    intro k b hk hb
    show bX2_columnsForPosts_4 _ u (nI rc) (bi b) (nI k) = _
    unfold bX2_columnsForPosts_4
    rw [if_pos (show (256 : Int32) ≤ nI k from nI_le (a := 256) (by omega) (by omega))]
    rfl
  | succ r ih =>
    intro k b hk hb
    show bX2_columnsForPosts_4 (rX2_columnsForPosts_4 (N + r + 1)) u (nI rc) (bi b) (nI k) = _
    unfold bX2_columnsForPosts_4 bX2_columnsForPosts_29
    rw [if_neg (show ¬ (256 : Int32) ≤ nI k from nI_ge (b := 256) (by omega) (by decide)), c_isFewer (by omega) hb, oB_of, nI_1]
    have hk' : bok (some k) := fun x hx => by cases hx; omega
    cases hf : fwB k b with
    | false =>
      rw [bgo_no (by rw [hf]; rfl)]
      exact (if_pos rfl).trans (ih (k + 1) b (by omega) hb)
    | true =>
      refine (if_neg (by decide)).trans ?_
      rw [c_sees (by omega) hrc, oB_of]
      have e := sq_eq (show k < 256 by omega) hrc
      by_cases c : sOut k rc 8 0 0 = 255
      · rw [if_pos c, if_neg (by decide), bgo_yes (by rw [hf, ← e, decide_eq_true c]; rfl)]
        exact ih (k + 1) (some k) (by omega) hk'
      · rw [if_neg c, if_pos rfl, bgo_no (by rw [hf, ← e, decide_eq_false c]; rfl)]
        exact ih (k + 1) b (by omega) hb
set_option maxRecDepth 100000 in
theorem m_isSeen {u : Mm} {k c rc : Nat} (hk : k < 256) (hc : c < 8) (hr : rc < 8) : fX9_isSeen u 45 (nI k) (nI c) (nI rc) = some (if qIn k c rc 8 0 false then 1 else 0, u) := by
  have st : ∀ (N n o : Nat) (s : Bool), o + n = 8 → rX9_isSeen_6 (N + n + 1) u (nI k) (nI c) (nI rc) (if s then 1 else 0) (nI o) = some (if qIn k c rc n o s then 1 else 0, u) := by
    intro N n
    induction n with
    | zero =>
      intro o s ho
      show bX9_isSeen_6 _ u (nI k) (nI c) (nI rc) (if s then 1 else 0) (nI o) = _
      unfold bX9_isSeen_6
      rw [if_pos (show (8 : Int32) ≤ nI o from nI_le (a := 8) (by omega) (by omega))]
      cases s <;> rfl
    | succ n ih =>
      intro o s ho
      show bX9_isSeen_6 (rX9_isSeen_6 (N + n + 1)) u (nI k) (nI c) (nI rc) (if s then 1 else 0) (nI o) = _
      unfold bX9_isSeen_6 bX9_isSeen_38 bX9_isSeen_42 bX9_isSeen_43
      rw [if_neg (show ¬ (8 : Int32) ≤ nI o from nI_ge (b := 8) (by omega) (by decide)), nI_1]
      show _ = some (if qIn k c rc n (o + 1) (s || (decide (bitN k o = 1) && decide (dN o c ≤ rc))) then 1 else 0, u)
      cases s with
      | true =>
        refine (if_neg (by decide)).trans ?_
        exact ih (o + 1) true (by omega)
      | false =>
        refine (if_pos rfl).trans ?_
        rw [m_is hk (by omega), oB_of]
        rcases bitN01 k o with q | q
        · rw [q, if_pos (show nI 0 = 0 from rfl)]
          exact ih (o + 1) false (by omega)
        · rw [q, if_neg (by decide), m_size, oB_of]
          by_cases c2 : dN o c ≤ rc
          · rw [if_neg (fun q => (dst_iff rc hr o (by omega) c hc).mp q c2), decide_eq_true c2]
            exact ih (o + 1) true (by omega)
          · rw [if_pos ((dst_iff rc hr o (by omega) c hc).mpr c2), decide_eq_false c2]
            exact ih (o + 1) false (by omega)
  exact st 999991 8 0 false (by decide)
set_option maxRecDepth 100000 in
theorem m_p66 {u : Mm} (h : hSh u) {K : Mm → Nat → Int32 → Int32 → Int32 → Int32 → Int32 → Option (Int32 × Mm)} {k rc : Nat} (hk : k < 256) (hr : rc < 8) {x y z : Int32} {N : Nat} : ∀ (n c : Nat), c + n = 8 → rX9_posts_66 K (N + n + 1) u 45 (nI rc) x y z (nI k) 1 (nI c) = bX9_posts_95 K u 45 (nI rc) x y z (nI k) (if qAll k rc n c then 1 else 0) := by
  intro n
  induction n with
  | zero =>
    intro c hc
    show bX9_posts_66 K _ u 45 (nI rc) x y z (nI k) 1 (nI c) = _
    unfold bX9_posts_66
    rw [if_pos (show (8 : Int32) ≤ nI c from nI_le (a := 8) (by omega) (by omega))]
    rfl
  | succ n ih =>
    intro c hc
    show bX9_posts_66 K (rX9_posts_66 K (N + n + 1)) u 45 (nI rc) x y z (nI k) 1 (nI c) = _
    unfold bX9_posts_66
    rw [if_neg (show ¬ (8 : Int32) ≤ nI c from nI_ge (b := 8) (by omega) (by decide)), if_neg (by decide), oR_of (sh45 h), m_isSeen hk (by omega) hr, oB_of, nI_1]
    show _ = bX9_posts_95 K u 45 (nI rc) x y z (nI k) (if (qIn k c rc 8 0 false && qAll k rc n (c + 1)) then 1 else 0)
    cases qIn k c rc 8 0 false with
    | true => exact ih (c + 1) (by omega)
    | false =>
      show bX9_posts_66 K _ u 45 (nI rc) x y z (nI k) 0 (nI (c + 1)) = _
      unfold bX9_posts_66
      rw [if_pos (show (0 : Int32) = 0 from rfl), ite_self]
      rfl
set_option maxRecDepth 100000 in
theorem m_posts {u : Mm} (h : hSh u) {rc : Nat} (hrc : rc < 8) {x : Int32} {N : Nat} : ∀ (r k : Nat) (b : Option Nat), k + r = 256 → bok b → rX9_posts_39 (N + r + 1) u 45 (nI rc) x (fewI b) (bi b) (nI k) = some (if x = 0 then fewI (bgo (fun k => qAll k rc 8 0) r k b) else bi (bgo (fun k => qAll k rc 8 0) r k b), u) := by
  intro r
  induction r with
  | zero =>
    intro k b hk hb
    show bX9_posts_39 _ u 45 (nI rc) x (fewI b) (bi b) (nI k) = _
    unfold bX9_posts_39 bX9_posts_140
    rw [if_pos (show (256 : Int32) ≤ nI k from nI_le (a := 256) (by omega) (by omega))]
    show _ = some (if x = 0 then fewI b else bi b, u)
    split <;> rfl
  | succ r ih =>
    intro k b hk hb
    show bX9_posts_39 (rX9_posts_39 (N + r + 1)) u 45 (nI rc) x (fewI b) (bi b) (nI k) = _
    unfold bX9_posts_39 bX9_posts_61
    have hk' : bok (some k) := fun x hx => by cases hx; omega
    have z0 : bX9_posts_95 (rX9_posts_39 (N + r + 1)) u 45 (nI rc) x (fewI b) (bi b) (nI k) 0 = rX9_posts_39 (N + r + 1) u 45 (nI rc) x (fewI b) (bi b) (nI (k + 1)) := by
      unfold bX9_posts_95 bX9_posts_107 bX9_posts_123
      rw [if_pos rfl, if_pos rfl, nI_1]
    have z1 : bX9_posts_95 (rX9_posts_39 (N + r + 1)) u 45 (nI rc) x (fewI b) (bi b) (nI k) 1 = rX9_posts_39 (N + r + 1) u 45 (nI rc) x (fewI (some k)) (bi (some k)) (nI (k + 1)) := by
      unfold bX9_posts_95 bX9_posts_107 bX9_posts_123
      rw [if_neg (by decide), if_neg (by decide), m_ones (by omega), oB_of, nI_1]
      rfl
    rw [if_neg (show ¬ (256 : Int32) ≤ nI k from nI_ge (b := 256) (by omega) (by decide)), m_ones (by omega), oB_of]
    cases hf : fwB k b with
    | false =>
      rw [if_pos ((few_iff hb).mpr hf), bgo_no (by rw [hf]; rfl)]
      have q : rX9_posts_66 (rX9_posts_39 (N + r + 1)) hwF u 45 (nI rc) x (fewI b) (bi b) (nI k) 0 0 = bX9_posts_95 (rX9_posts_39 (N + r + 1)) u 45 (nI rc) x (fewI b) (bi b) (nI k) 0 := by
        show bX9_posts_66 _ _ u 45 (nI rc) x (fewI b) (bi b) (nI k) 0 0 = _
        unfold bX9_posts_66
        rw [if_neg (by decide), if_pos rfl]
      rw [q, z0]
      exact ih (k + 1) b (by omega) hb
    | true =>
      rw [if_neg (fun q => by rw [(few_iff hb).mp q] at hf; cases hf)]
      have q := m_p66 h (K := rX9_posts_39 (N + r + 1)) (show k < 256 by omega) hrc (x := x) (y := fewI b) (z := bi b) (N := 999991) 8 0 (by decide)
      refine Eq.trans q ?_
      cases hq : qAll k rc 8 0 with
      | false =>
        rw [bgo_no (by rw [hf, hq]; rfl)]
        exact z0.trans (ih (k + 1) b (by omega) hb)
      | true =>
        rw [bgo_yes (by rw [hf, hq]; rfl)]
        exact z1.trans (ih (k + 1) (some k) (by omega) hk')
set_option maxRecDepth 100000 in
theorem posts_some : allBelow (fun rc => (bgo (fun k => qAll k rc 8 0) 256 0 none).isSome) 8 = true := by decide +kernel
set_option maxRecDepth 100000 in
theorem s31 {LR : Mm → Prop} (hF : LRf LR) : hwS_31 (Rel LR) := by
  intro a x u h
  have hS := h.1
  have hT : hSh (mT u) := hS
  have h0 : bok none := fun x hx => by cases hx
  by_cases c1 : 0 ≤ a ∧ a ≤ 7
  · by_cases c : 0 ≤ x ∧ x ≤ 1
    · obtain ⟨rc, hrc, rfl⟩ := nIof (n := 7) 7 (by decide) c1
      have hb := bgo_ok (P := fun k => qAll k rc 8 0) 256 0 none (by decide) h0
      have hc : fX2_columnsForPosts u 17 (nI rc) = some (bi (bgo (fun k => qAll k rc 8 0) 256 0 none), u) := by
        unfold fX2_columnsForPosts
        rw [show hwF = 999743 + 256 + 1 from rfl]
        exact c_posts (by omega) 256 0 none (by decide) h0
      have hm := m_posts hT (rc := rc) (by omega) (x := x) (N := 999743) 256 0 none (by decide) h0
      have hq := allBelow_of 8 posts_some rc (by omega)
      generalize bgo (fun k => qAll k rc 8 0) 256 0 none = B at hb hc hm hq
      refine ⟨if x = 0 then fewI B else bi B, u, mT u, ?_, hR45_Rel hS, ?_, Rel_mT hF h⟩
      · show fX8_posts u 0 (nI rc) x = _
        unfold fX8_posts
        rw [c_within, oB_of, if_pos c1, if_neg (by decide), c_within, oB_of, if_pos c, if_neg (by decide), oK_of (sh0 hS), rf0_2 hS, oNn_of, oR_of (sh17 hS), hc, oB_of, c_count hb, oB_of]
        cases B with
        | none => cases hq
        | some b => rfl
      · show fX9_posts u 45 (nI rc) x = _
        unfold fX9_posts
        rw [oK_of (sh45 hS), oT, m_in7, oB_of, if_pos c1, if_neg (by decide), m_in1, oB_of, if_pos c, if_neg (by decide)]
        exact hm
    · refine ⟨-1, u, mT u, ?_, hR45_Rel hS, ?_, Rel_mT hF h⟩
      · show fX8_posts u 0 a x = _
        unfold fX8_posts
        rw [c_within, oB_of, if_pos c1, if_neg (by decide), c_within, oB_of, if_neg c, if_pos rfl]
      · show fX9_posts u 45 a x = _
        unfold fX9_posts
        rw [oK_of (sh45 hS), oT, m_in7, oB_of, if_pos c1, if_neg (by decide), m_in1, oB_of, if_neg c, if_pos rfl]
  · refine ⟨-1, u, mT u, ?_, hR45_Rel hS, ?_, Rel_mT hF h⟩
    · show fX8_posts u 0 a x = _
      unfold fX8_posts
      rw [c_within, oB_of, if_neg c1, if_pos rfl]
    · show fX9_posts u 45 a x = _
      unfold fX9_posts
      rw [oK_of (sh45 hS), oT, m_in7, oB_of, if_neg c1, if_pos rfl]
