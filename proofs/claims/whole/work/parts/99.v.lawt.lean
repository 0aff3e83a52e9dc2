/-! ===== all clauses of a law, by both ===== -/
set_option maxRecDepth 100000 in
theorem Cc_up {c c' : Mm} {cd wt cd' wt' : Nat → Int32} {L L' n r h : Nat} {tt : Bool} {fV fS : (Nat → Int32) → Int64} (hr : r < n) (k : CFr c c' n) (h0 : Cc c cd wt L r h tt fV fS) (hL : L ≤ L') (e : ∀ j, j < L → cd' j = cd j ∧ wt' j = wt j) (he : L' = L ∨ cd' L = 288) : Cc c' cd' wt' L' r h tt fV fS := by
  obtain ⟨h1, h2, h3, h4⟩ := h0
  obtain ⟨-, -, -, -, -, -, -, k26, -, k28⟩ := k
  refine ⟨by rw [k26 r (by omega)]; exact h1, fun ht => ?_, fun ht => by rw [k28 _ (by omega)]; exact h3 ht, fun h5 => ?_⟩
  · obtain ⟨a, a1, a2, a3⟩ := h2 ht
    exact ⟨a, by omega, by rw [k28 _ (by omega)]; exact a2, SegC_up a3 hL e he⟩
  · obtain ⟨a, a1, a2, a3⟩ := h4 h5
    exact ⟨a, by omega, by rw [k28 _ (by omega)]; exact a2, SegC_up a3 hL e he⟩
set_option maxRecDepth 100000 in
theorem Rc_up {m m' : Mm} {op ar op' ar' : Nat → Int32} {nc nc' n r h : Nat} {tt : Bool} {fV fS : (Nat → Int32) → Int64} (hr : r < n) (k : ∀ i, i < 8 * n → mI m' 55 i = mI m 55 i) (h0 : Rc m op ar nc r h tt fV fS) (hL : nc ≤ nc') (e : ∀ j, j < nc → op' j = op j ∧ ar' j = ar j) : Rc m' op' ar' nc' r h tt fV fS := by
  obtain ⟨h1, h2, h3, h4⟩ := h0
  refine ⟨by rw [k _ (by omega)]; exact h1, fun ht => ?_, fun ht => ?_, fun h5 => ?_⟩
  · obtain ⟨a, b, a1, a2, a3, a4⟩ := h2 ht
    exact ⟨a, b, by omega, by rw [k _ (by omega)]; exact a2, by rw [k _ (by omega)]; exact a3, SegR_up a4 a1 e⟩
  · obtain ⟨x, a1, a2, a3⟩ := h3 ht
    exact ⟨x, a1, by rw [k _ (by omega)]; exact a2, by rw [k _ (by omega)]; exact a3⟩
  · obtain ⟨a, b, a1, a2, a3, a4⟩ := h4 h5
    exact ⟨a, b, by omega, by rw [k _ (by omega)]; exact a2, by rw [k _ (by omega)]; exact a3, SegR_up a4 a1 e⟩
def LI (c m : Mm) (cd wt : Nat → Int32) (L : Nat) (op ar : Nat → Int32) (nc : Nat) (A : LawA) : Prop := ∀ r, r < aC A → aH A r < 4 ∧ tvf (aV A r) ∧ sv (aS A r) ∧ Cc c cd wt L r (aH A r) (aT A r) (aV A r) (aS A r) ∧ Rc m op ar nc r (aH A r) (aT A r) (aV A r) (aS A r)
def aAdd (A : LawA) (h : Nat) (tt : Bool) (fV fS : (Nat → Int32) → Int64) : LawA := (aC A + 1, fun r => if r = aC A then h else aH A r, fun r => if r = aC A then tt else aT A r, fun r => if r = aC A then fV else aV A r, fun r => if r = aC A then fS else aS A r)
set_option maxRecDepth 100000 in
theorem LI_add {c m c' m' : Mm} {cd wt cd' wt' op ar op' ar' : Nat → Int32} {L L' nc nc' h : Nat} {A : LawA} {tt : Bool} {fV fS : (Nat → Int32) → Int64} (hI : LI c m cd wt L op ar nc A) (kc : CFr c c' (aC A)) (hL : L ≤ L') (e : ∀ j, j < L → cd' j = cd j ∧ wt' j = wt j) (he : L' = L ∨ cd' L = 288) (km : ∀ i, i < 8 * aC A → mI m' 55 i = mI m 55 i) (hn : nc ≤ nc') (e2 : ∀ j, j < nc → op' j = op j ∧ ar' j = ar j) (h4 : h < 4) (hv : tvf fV) (hs : sv fS) (hC : Cc c' cd' wt' L' (aC A) h tt fV fS) (hR : Rc m' op' ar' nc' (aC A) h tt fV fS) : LI c' m' cd' wt' L' op' ar' nc' (aAdd A h tt fV fS) := by
  intro r hr
  have hr' : r < aC A + 1 := hr
  show (if r = aC A then h else aH A r) < 4 ∧ tvf (if r = aC A then fV else aV A r) ∧ sv (if r = aC A then fS else aS A r) ∧ Cc c' cd' wt' L' r (if r = aC A then h else aH A r) (if r = aC A then tt else aT A r) (if r = aC A then fV else aV A r) (if r = aC A then fS else aS A r) ∧ Rc m' op' ar' nc' r (if r = aC A then h else aH A r) (if r = aC A then tt else aT A r) (if r = aC A then fV else aV A r) (if r = aC A then fS else aS A r)
  by_cases z : r = aC A
  · simp only [z, if_true]
    exact ⟨h4, hv, hs, hC, hR⟩
  · simp only [z, if_false]
    obtain ⟨a1, a2, a3, a4, a5⟩ := hI r (by omega)
    exact ⟨a1, a2, a3, Cc_up (by omega) kc a4 hL e he, Rc_up (by omega) km a5 hn e2⟩
/-- what the class's reader changes, whatever was read -/
def CrF (c c' : Mm) : Prop := mQ c' = mQ c ∧ mK c' = mK c ∧ mR c' = mR c ∧ mL c' = mL c ∧ (∀ a, a ≠ 23 → a ≠ 26 → a ≠ 27 → a ≠ 28 → mI c' a = mI c a) ∧ (∀ j, j ≠ 6 → mI c' 23 j = mI c 23 j)
set_option maxRecDepth 100000 in
theorem CrF_rfl {c : Mm} : CrF c c := ⟨rfl, rfl, rfl, rfl, fun _ _ _ _ _ => rfl, fun _ _ => rfl⟩
set_option maxRecDepth 100000 in
theorem CrF_step {c d e : Mm} {n : Nat} (h : CrF c d) (k : CFr d e n) : CrF c e := ⟨k.1.trans h.1, k.2.1.trans h.2.1, k.2.2.1.trans h.2.2.1, k.2.2.2.1.trans h.2.2.2.1, fun a h1 h2 h3 h4 => (k.2.2.2.2.1 a h1 h2 h3 h4).trans (h.2.2.2.2.1 a h1 h2 h3 h4), fun j h1 => (k.2.2.2.2.2.1 j h1).trans (h.2.2.2.2.2 j h1)⟩
section
variable {t : Tk}
set_option maxRecDepth 100000 in
theorem c_106' {q : Bool} {c : Mm} {k p L : Nat} {cd wt : Nat → Int32} (hT : TkO t) (hc : LXc t q c) (hk : k ≤ tM t) : bX4_readText_106 (cS c k p L cd wt) 19 = some (nI (tS t k), cS c k p L cd wt) := by
  have hs : hSh (cS c k p L cd wt) := hc.1
  have h4 := hT.1
  unfold bX4_readText_106 bX4_readText_115
  rw [oK_of (sh19 hs), rf19_2 hs, oNn_of, oK_of (sh19 hs), oI_of, cS_4, oA_k (sh22 hs) (by omega) (by decide), oI_of, clm (by omega), cS_P hc hk]
set_option maxRecDepth 100000 in
theorem r_37bad {m' : Mm} {k nc nl np no : Nat} {op ar pl pa : Nat → Int32} (hm : hSh m') (h : mI m' 45 19 = 1) {N : Nat} : rX9_law_37 (N + 1) (rS t m' k nc nl np no op ar pl pa) 45 = bX9_law_64 (rS t m' k nc nl np no op ar pl pa) 45 := by
  have hs : hSh (rS t m' k nc nl np no op ar pl pa) := hm
  show bX9_law_37 _ _ 45 = _
  unfold bX9_law_37
  rw [oK_of (sh45 hs), oI_of, rS_19', h, if_neg (by decide)]
set_option maxRecDepth 100000 in
theorem r_37 {q : Bool} {m' : Mm} {k nc nl np no : Nat} {op ar pl pa : Nat → Int32} (hT : TkO t) (hm : LXm t q m') (hk : k ≤ tM t) {N : Nat} : rX9_law_37 (N + 1) (rS t m' k nc nl np no op ar pl pa) 45 = if tK t k = 59 then oB (fX9_readLaw (rS t m' (k + 1) nc nl np no op ar pl pa) 45) (fun _ u41 => rX9_law_37 N u41 45) else bX9_law_64 (rS t m' k nc nl np no op ar pl pa) 45 := by
  have hs : ∀ k, hSh (rS t m' k nc nl np no op ar pl pa) := fun _ => hm.1
  show bX9_law_37 (rX9_law_37 N) _ 45 = _
  unfold bX9_law_37
  rw [oK_of (sh45 (hs _)), oI_of, rS_19 hm.2.2.1, if_pos rfl, oR_of (sh45 (hs _))]
  by_cases z : tK t k = 59
  · rw [r_sgY hT hm.1 hk (by decide) z, oB_of, if_neg (by decide), oR_of (sh45 (hs _)), r_next hm (TkO_lt hT hk (by rw [z]; decide)), oB_of, oR_of (sh45 (hs _)), if_pos z]
  · rw [r_sgN hT hm.1 hk (by decide) z, oB_of, if_pos rfl, if_neg z]
/-- the end of both: a fault, or all is read -/
def LTx (t : Tk) (c m : Mm) (X Y : Option (Int32 × Mm)) : Prop := ∃ v c' k' p' L' cd' wt', X = some (v, cS c' k' p' L' cd' wt') ∧ CrF c c' ∧ k' ≤ tM t ∧
  ((v = nI (tS t k') ∧ ∃ s, Y = bX9_law_64 s 45 ∧ (Bad9 t m s k' ∨ ∃ m' nc np no op ar pl pa, s = rS t m' k' nc p' np no op ar pl pa ∧ BFr m m' ∧ mI m' 45 19 = 0 ∧ k' < tM t)) ∨
   (v = -1 ∧ L' ≤ 400 ∧ ∃ m' nc np no op ar pl pa A, Y = bX9_law_64 (rS t m' k' nc p' np no op ar pl pa) 45 ∧ k' = tM t ∧ BFr m m' ∧ mI m' 45 19 = 0 ∧ mI m' 45 18 = mI m 45 18 ∧ 1 ≤ aC A ∧ aC A ≤ 12 ∧ mI m' 45 21 = nI (aC A) ∧ mI c' 23 6 = nI (aC A) ∧ nc ≤ 400 ∧ LI c' m' cd' wt' L' op ar nc A))
set_option maxRecDepth 100000 in
theorem J_ltext {m0 c0 : Mm} (hT : TkO t) (hM : ∀ m', BFr m0 m' → mI m' 45 19 = 0 → LXm t false m') {Nf Ng : Nat} : ∀ (d : Nat) (c m : Mm) (k p L nc np no : Nat) (cd wt op ar pl pa : Nat → Int32) (A : LawA), d + aC A = 12 → 1 ≤ d → LXc t false c → CrF c0 c → BFr m0 m → mI m 45 19 = 0 → mI m 45 18 = mI m0 45 18 → k ≤ tM t → L ≤ k → p ≤ 50 → nc ≤ k → mI c 23 6 = nI (aC A) → mI m 45 21 = nI (aC A) → LI c m cd wt L op ar nc A →
    LTx t c0 m0 (rX4_readText_39 (Nf + d + 1) (cS c k p L cd wt) 19 1 (nI (aC A))) (oB (fX9_readLaw (rS t m k nc p np no op ar pl pa) 45) (fun _ u => rX9_law_37 (Ng + d + 1) u 45)) := by
  have h400 := hT.1
  intro d
  induction d with
  | zero => intro c m k p L nc np no cd wt op ar pl pa A h h1; omega
  | succ d ih =>
    intro c m k p L nc np no cd wt op ar pl pa A hA h1 hc kc km h19 h18 hk hL hp hnc h6 h21 hI
    have hm : LXm t false m := hM m km h19
    have hs : ∀ c', hSh c' → ∀ k p L cd wt, hSh (cS c' k p L cd wt) := fun _ h _ _ _ _ _ => h
    obtain ⟨r, c', k', p', L', cd', wt', a1, a2, a3, a4, a5⟩ := J_lclause (np := np) (no := no) (cd := cd) (wt := wt) (op := op) (ar := ar) (pl := pl) (pa := pa) hT hc hm (fun m' b1 b2 => hM m' (BFr_trans km b1) b2) hk hL hp hnc (show aC A < 12 by omega) h6 h21
    have hc' : LXc t false c' := CFr_LX a4 hc
    have X1 : rX4_readText_39 (Nf + (d + 1) + 1) (cS c k p L cd wt) 19 1 (nI (aC A)) = (if (r : Int32) = 0 then some (nI (tS t k'), cS c' k' p' L' cd' wt') else oB (fX4_skip (cS c' k' p' L' cd' wt') 19 59) (fun v16 u17 => rX4_readText_39 (Nf + d + 1) u17 19 v16 (nI (aC A + 1)))) := by
      show bX4_readText_39 (rX4_readText_39 (Nf + d + 1)) _ 19 1 (nI (aC A)) = _
      unfold bX4_readText_39
      rw [if_neg (show ¬ (12 : Int32) ≤ nI (aC A) from nI_ge (b := 12) (by omega) (by decide)), if_neg (by decide), oR_of (sh19 (hs _ hc.1 _ _ _ _ _)), a1, oB_of, nI_1]
      by_cases z : r = 0
      · rw [if_pos z, if_pos z, oK_of (sh19 (hs _ hc'.1 _ _ _ _ _)), rf19_2 (hs _ hc'.1 _ _ _ _ _), oNn_of, oK_of (sh19 (hs _ hc'.1 _ _ _ _ _)), oI_of, cS_4, oA_k (sh22 (hs _ hc'.1 _ _ _ _ _)) (by omega) (by decide), oI_of, clm (by omega), cS_P hc' a3]
      · rw [if_neg z, if_neg z, oR_of (sh19 (hs _ hc'.1 _ _ _ _ _))]
    rw [X1]
    rcases a5 with ⟨rfl, s, b1, b2⟩ | ⟨rfl, b0, b1, b2, b3, b4, b5, m', nc', np', no', op', ar', pl', pa', h, tt, fV, fS, e1, e2, e3, e4, e5, e6, e7, e8, e9, e10, e11, e12, e13, e14⟩
    · rw [if_pos rfl, b1, oB_of]
      obtain ⟨m', w1, w2, w3, w4, w5, w6, w7, w8, w9, w10, w11, w12, w13⟩ := b2
      subst w10
      rw [r_37bad (BFr_sh w11 hm.1) w12]
      exact ⟨_, c', k', p', L', cd', wt', rfl, CrF_step kc a4, a3, Or.inl ⟨rfl, _, rfl, Or.inl ⟨m', w1, w2, w3, w4, w5, w6, w7, w8, w9, rfl, BFr_trans km w11, w12, w13⟩⟩⟩
    · have hm' : LXm t false m' := hM m' (BFr_trans km e2) e3
      have hI' : LI c' m' cd' wt' L' op' ar' nc' (aAdd A h tt fV fS) := LI_add hI a4 b2 b4 b5 e6 e7 e9 e10 e11 e12 e13 e14
      have aC' : aC (aAdd A h tt fV fS) = aC A + 1 := rfl
      rw [if_neg (by decide), e1, oB_of]
      by_cases z : tK t k' = 59
      · have kM : k' < tM t := TkO_lt hT a3 (by rw [z]; decide)
        rw [c_skipY hT hc' a3 (by decide) z, oB_of, show Ng + (d + 1) + 1 = Ng + d + 1 + 1 by omega, r_37 hT hm' a3, if_pos z]
        by_cases d0 : d = 0
        · -- a clause too many
          subst d0
          have hx : rX4_readText_39 (Nf + 0 + 1) (cS c' (k' + 1) p' L' cd' wt') 19 1 (nI (aC A + 1)) = some (nI (tS t (k' + 1)), cS c' (k' + 1) p' L' cd' wt') := by
            show bX4_readText_39 _ _ 19 1 _ = _
            unfold bX4_readText_39 bX4_readText_82
            rw [if_pos (show (12 : Int32) ≤ nI (aC A + 1) by rw [show aC A + 1 = 12 by omega]; decide), if_neg (by decide), c_106' hT hc' (by omega)]
          have hr : fX9_readLaw (rS t m' (k' + 1) nc' p' np' no' op' ar' pl' pa') 45 = some ((), rS t (mB t m' (k' + 1)) (k' + 1) nc' p' np' no' op' ar' pl' pa') := by
            rw [r_readLaw hT hm'.1 (show k' + 1 ≤ tM t by omega), r_54bad hm', if_pos (show (12 : Int32) ≤ mI m' 45 21 by rw [e5, show aC A + 1 = 12 by omega]; decide)]
            split <;> rfl
          rw [hx, hr, oB_of, r_37bad (m' := mB t m' (k' + 1)) hm'.1 rfl]
          exact ⟨_, c', k' + 1, p', L', cd', wt', rfl, CrF_step kc a4, by omega, Or.inl ⟨rfl, _, rfl, Or.inl ⟨mB t m' (k' + 1), k' + 1, nc', p', np', no', op', ar', pl', pa', rfl, BFr_trans km (BFr_trans e2 BFr_B), rfl, rfl⟩⟩⟩
        · have st := ih c' m' (k' + 1) p' L' nc' np' no' cd' wt' op' ar' pl' pa' (aAdd A h tt fV fS) (by rw [aC']; omega) (by omega) hc' (CrF_step kc a4) (BFr_trans km e2) e3 (e4.trans h18) (by omega) (by omega) b1 (by omega) a4.2.2.2.2.2.2.1 e5 hI'
          rw [aC'] at st
          exact st
      · have hx : rX4_readText_39 (Nf + d + 1) (cS c' k' p' L' cd' wt') 19 0 (nI (aC A + 1)) = bX4_readText_82 (cS c' k' p' L' cd' wt') 19 0 := by
          show bX4_readText_39 _ _ 19 0 _ = _
          unfold bX4_readText_39
          by_cases w : (12 : Int32) ≤ nI (aC A + 1)
          · rw [if_pos w]
          · rw [if_neg w, if_pos rfl]
        rw [c_skipN hT hc' a3 (by decide) z, oB_of, show Ng + (d + 1) + 1 = Ng + d + 1 + 1 by omega, r_37 hT hm' a3, if_neg z, hx]
        unfold bX4_readText_82
        rw [if_pos rfl, oK_of (sh19 (hs _ hc'.1 _ _ _ _ _)), rf19_0 (hs _ hc'.1 _ _ _ _ _), oNn_of, oK_of (sh19 (hs _ hc'.1 _ _ _ _ _)), oI_of, cS_4, oA_k (sh20 (hs _ hc'.1 _ _ _ _ _)) (by omega) (by decide), oI_of, clm (by omega), cS_K hc' a3]
        by_cases y : tK t k' = 286
        · have ek : k' = tM t := by
            rcases Nat.lt_or_eq_of_le a3 with w | w
            · exact absurd y (hT.2.2.2.2.1 k' w)
            · exact w
          rw [if_pos y]
          unfold bX4_readText_115
          exact ⟨-1, c', k', p', L', cd', wt', rfl, CrF_step kc a4, a3, Or.inr ⟨rfl, by omega, m', nc', np', no', op', ar', pl', pa', aAdd A h tt fV fS, rfl, ek, BFr_trans km e2, e3, e4.trans h18, by rw [aC']; omega, by rw [aC']; omega, e5, a4.2.2.2.2.2.2.1, by omega, hI'⟩⟩
        · rw [if_neg y, c_106' hT hc' a3]
          exact ⟨_, c', k', p', L', cd', wt', rfl, CrF_step kc a4, a3, Or.inl ⟨rfl, _, rfl, Or.inr ⟨m', nc', np', no', op', ar', pl', pa', rfl, BFr_trans km e2, e3, TkO_lt hT a3 y⟩⟩⟩
end
