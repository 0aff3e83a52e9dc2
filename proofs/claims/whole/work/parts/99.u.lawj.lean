/-! ===== a clause of a law, joined ===== -/
section
variable {t : Tk} {c m : Mm} {k p L nc np no n : Nat} {cd wt op ar pl pa : Nat → Int32}
set_option maxRecDepth 100000 in
theorem mD_BFr {m : Mm} {n nc : Nat} : BFr m (mD m n nc) := BFr_trans BFr_55 BFr_55
set_option maxRecDepth 100000 in
theorem J_lif (hT : TkO t) (hc : LXc t false c) (hm : LXm t false m) (hM : ∀ m', BFr m m' → mI m' 45 19 = 0 → LXm t false m') (hk : k ≤ tM t) (hL : L ≤ k) (hp : p ≤ 50) (hnc : nc ≤ k) (hn : n < 12) (h6 : mI c 23 6 = nI (n + 1)) :
  (∃ k' p' L' cd' wt' s, bX4_readClause_38 (cS c k p L cd wt) 19 1 = some (0, cS (wI c 28 (upd (mI c 28) (4 * n + 3) (nI (L + 1)))) k' p' L' cd' wt') ∧ k ≤ k' ∧ k' ≤ tM t ∧ bX9_readLaw_135 (rS t m k nc p np no op ar pl pa) 45 (nI (8 * n)) = some ((), s) ∧ Bad9 t m s k') ∨
  (∃ (tt : Bool) (fV : (Nat → Int32) → Int64) (k' p' L' : Nat) (cd' wt' : Nat → Int32) (nc' np' no' : Nat) (op' ar' pl' pa' : Nat → Int32), bX4_readClause_38 (cS c k p L cd wt) 19 1 = some (1, cS (if tt = true then wI c 28 (upd (mI c 28) (4 * n + 3) (nI (L + 1))) else c) k' p' L' cd' wt') ∧ bX9_readLaw_135 (rS t m k nc p np no op ar pl pa) 45 (nI (8 * n)) = some ((), rS t (wI (mD m n nc) 55 (upd (mI (mD m n nc) 55) (8 * n + 6) (nI nc'))) k' nc' p' np' no' op' ar' pl' pa') ∧ k ≤ k' ∧ k' ≤ tM t ∧ p ≤ p' ∧ p' ≤ 50 ∧ L ≤ L' ∧ L' ≤ k' ∧ (∀ j, j < L → cd' j = cd j ∧ wt' j = wt j) ∧ (L' = L ∨ cd' L = 288) ∧ tvf fV ∧ (tt = true → SegC cd' wt' L' fV (L + 1)) ∧ nc ≤ nc' ∧ nc' ≤ k' ∧ (∀ j, j < nc → op' j = op j ∧ ar' j = ar j) ∧ (tt = true → SegR false op' ar' fV nc nc') ∧ (tt = false → nc' = nc)) := by
  have h400 := hT.1
  have hmD : LXm t false (mD m n nc) := hM _ mD_BFr hm.2.2.1
  have hsD : ∀ k, hSh (rS t (mD m n nc) k nc p np no op ar pl pa) := fun _ => hm.1
  have w294 : fX9_isWord (rS t (mD m n nc) k nc p np no op ar pl pa) 45 294 = some (if tK t k = 268 then 1 else 0, rS t (mD m n nc) k nc p np no op ar pl pa) := r_wd hT hmD.1 hk (i := 12) (w := 294) (by decide) rfl
  by_cases hI : tK t k = 268
  · have kM : k < tM t := TkO_lt hT hk (by rw [hI]; decide)
    have hc1 : LXc t false (wI c 28 (upd (mI c 28) (4 * n + 3) (nI (L + 1)))) := ⟨hc.1, hc.2.1, hc.2.2⟩
    obtain ⟨r, k', p', L', cd', wt', a1, a2, a3, a4⟩ := E_test (np := np) (no := no) (op := op) (ar := ar) (pl := pl) (pa := pa) (cd := upd cd L 288) (wt := upd wt L 0) (nc := nc) hT hc1 hmD (show 1 ≤ k + 1 by omega) (show k + 1 ≤ tM t by omega) (show L + 1 ≤ k + 1 by omega) hp (show nc ≤ k + 1 by omega)
    have X : r = 0 ∨ r = 1 := a4.elim (fun h => Or.inl h.1) (fun h => Or.inr h.1)
    have cx := c_38Y hT hc hk hI hn h6 (show L < 401 by omega) X a1
    have rx : bX9_readLaw_135 (rS t m k nc p np no op ar pl pa) 45 (nI (8 * n)) = oB (fX9_readExpression (rS t (mD m n nc) (k + 1) nc p np no op ar pl pa) 45 1) (fun _ u25 => bX9_readLaw_185 u25 45 (nI (8 * n))) := by
      rw [r_135 hm.1 hn, if_pos hm.2.2.1, w294, oB_of, if_pos hI, if_neg (by decide), oR_of (sh45 (hsD _)), r_next hmD kM, oB_of, oR_of (sh45 (hsD _))]
    rw [cx, rx]
    rcases a4 with ⟨rfl, nc', nl', np', no', op', ar', pl', pa', b1⟩ | ⟨rfl, b1, b2, b3, b4, b5, b6, f, e, op', ar', pl', pa', f1, f2, f3, f4, f5, f6, f7⟩
    · rw [b1, oB_of, r_185 (m := mB t (mD m n nc) k') hm.1 hn]
      exact Or.inl ⟨k', p', L', cd', wt', _, rfl, by omega, a3, rfl, _, k', nc', nl', np', no', op', ar', pl', pa', rfl, BFr_trans mD_BFr (BFr_trans BFr_B BFr_55), rfl, rfl⟩
    · rw [f3, oB_of, r_185 (m := mD m n nc) hm.1 hn]
      refine Or.inr ⟨true, f, k', p', L', cd', wt', e, 0, 0, op', ar', pl', pa', rfl, rfl, by omega, a3, by omega, b3, by omega, by omega, fun j hj => ?_, Or.inr ?_, f2, fun _ => ⟨L', p' - p, by omega, Nat.le_refl _, f1, Or.inl rfl⟩, by omega, f6, f4, fun _ => ⟨f5, by omega, p' - p, by omega, f7⟩, fun h => absurd h (by decide)⟩
      · have := b6 j (by omega)
        rw [pk_un (by omega), pk_un (by omega)] at this
        exact this
      · rw [(b6 L (by omega)).1, pk_us]
  · have rx : bX9_readLaw_135 (rS t m k nc p np no op ar pl pa) 45 (nI (8 * n)) = bX9_readLaw_185 (rS t (mD m n nc) k nc p np no op ar pl pa) 45 (nI (8 * n)) := by
      rw [r_135 hm.1 hn, if_pos hm.2.2.1, w294, oB_of, if_neg hI, if_pos rfl]
    rw [c_38N hT hc hk hI, rx, r_185 (m := mD m n nc) hm.1 hn]
    exact Or.inr ⟨false, fun _ => 0, k, p, L, cd, wt, nc, np, no, op, ar, pl, pa, rfl, rfl, Nat.le_refl k, hk, Nat.le_refl p, hp, Nat.le_refl L, hL, fun _ _ => ⟨rfl, rfl⟩, Or.inl rfl, fun _ => Or.inl rfl, fun h => absurd h (by decide), Nat.le_refl nc, hnc, fun _ _ => ⟨rfl, rfl⟩, fun h => absurd h (by decide), fun _ => rfl⟩
/-- what a clause is: class, reference -/
def Cc (c : Mm) (cd wt : Nat → Int32) (L n h : Nat) (tt : Bool) (fV fS : (Nat → Int32) → Int64) : Prop := mI c 26 n = nI (256 + h) ∧ (tt = true → ∃ a, a ≤ L ∧ mI c 28 (4 * n + 3) = nI a ∧ SegC cd wt L fV a) ∧ (tt = false → mI c 28 (4 * n + 3) = -1) ∧ (h ≠ 3 → ∃ a, a ≤ L ∧ mI c 28 (4 * n) = nI a ∧ SegC cd wt L fS a)
def Rc (m : Mm) (op ar : Nat → Int32) (nc n h : Nat) (tt : Bool) (fV fS : (Nat → Int32) → Int64) : Prop := mI m 55 (8 * n) = nI h ∧ (tt = true → ∃ a b, b ≤ nc ∧ mI m 55 (8 * n + 5) = nI a ∧ mI m 55 (8 * n + 6) = nI b ∧ SegR false op ar fV a b) ∧ (tt = false → ∃ x, x ≤ 400 ∧ mI m 55 (8 * n + 5) = nI x ∧ mI m 55 (8 * n + 6) = nI x) ∧ (h ≠ 3 → ∃ a b, b ≤ nc ∧ mI m 55 (8 * n + 3) = nI a ∧ mI m 55 (8 * n + 4) = nI b ∧ SegR false op ar fS a b)
def LCl (t : Tk) (c m : Mm) (k p L nc np no n : Nat) (cd wt op ar pl pa : Nat → Int32) : Prop := ∃ r c' k' p' L' cd' wt', fX4_readClause (cS c k p L cd wt) 19 = some (r, cS c' k' p' L' cd' wt') ∧ k ≤ k' ∧ k' ≤ tM t ∧ CFr c c' n ∧
  ((r = 0 ∧ ∃ s, fX9_readLaw (rS t m k nc p np no op ar pl pa) 45 = some ((), s) ∧ Bad9 t m s k') ∨
   (r = 1 ∧ k < k' ∧ p' ≤ 50 ∧ L ≤ L' ∧ L' ≤ k' ∧ (∀ j, j < L → cd' j = cd j ∧ wt' j = wt j) ∧ (L' = L ∨ cd' L = 288) ∧ ∃ m' nc' np' no' op' ar' pl' pa' h tt fV fS, fX9_readLaw (rS t m k nc p np no op ar pl pa) 45 = some ((), rS t m' k' nc' p' np' no' op' ar' pl' pa') ∧ BFr m m' ∧ mI m' 45 19 = 0 ∧ mI m' 45 18 = mI m 45 18 ∧ mI m' 45 21 = nI (n + 1) ∧ (∀ i, i < 8 * n → mI m' 55 i = mI m 55 i) ∧ nc ≤ nc' ∧ nc' ≤ k' ∧ (∀ j, j < nc → op' j = op j ∧ ar' j = ar j) ∧ h < 4 ∧ tvf fV ∧ sv fS ∧ Cc c' cd' wt' L' n h tt fV fS ∧ Rc m' op' ar' nc' n h tt fV fS))
set_option maxRecDepth 100000 in
theorem mA_BFr {m : Mm} {n nc : Nat} {hd : Int32} : BFr m (mA m n nc hd) := BFr_trans BFr_55 (BFr_trans BFr_21 BFr_55)
set_option maxRecDepth 100000 in
theorem mA_55 {m : Mm} {n nc : Nat} {hd : Int32} : mI (mA m n nc hd) 55 = upd (upd (zF (mI m 55) 8 n 8) (8 * n) hd) (8 * n + 3) (nI nc) := rfl
set_option maxRecDepth 100000 in
theorem mA_21 {m : Mm} {n nc : Nat} {hd : Int32} : mI (mA m n nc hd) 45 21 = nI (n + 1) := by
  show upd (mI m 45) 21 (nI (n + 1)) 21 = _
  rw [pk_us]
set_option maxRecDepth 100000 in
theorem mD_55 {m : Mm} {n nc : Nat} : mI (mD m n nc) 55 = upd (upd (mI m 55) (8 * n + 4) (nI nc)) (8 * n + 5) (nI nc) := rfl
set_option maxRecDepth 100000 in
theorem J_lclause (hT : TkO t) (hc : LXc t false c) (hm : LXm t false m) (hM : ∀ m', BFr m m' → mI m' 45 19 = 0 → LXm t false m') (hk : k ≤ tM t) (hL : L ≤ k) (hp : p ≤ 50) (hnc : nc ≤ k) (hn : n < 12) (h6 : mI c 23 6 = nI n) (h21 : mI m 45 21 = nI n) : LCl t c m k p L nc np no n cd wt op ar pl pa := by
  have h400 := hT.1
  have hs : ∀ c', hSh c' → ∀ k p L cd wt, hSh (cS c' k p L cd wt) := fun _ h _ _ _ _ _ => h
  have kB : ∀ x, CFr c (bCl c n x) n := fun x => CFr_bCl
  have n12 : ¬ (12 : Int32) ≤ mI m 45 21 := by rw [h21]; exact nI_ge (b := 12) hn (by decide)
  -- the class's clause from its body on
  have cl : fX4_readClause (cS c k p L cd wt) 19 = oB (fX4_readLaw (cS (bCl c n (tK t k)) k p L cd wt) 19 (tK t k)) (fun v15 u16 => bX4_readClause_38 u16 19 v15) := by
    have hcB : LXc t false (bCl c n (tK t k)) := CFr_LX (kB _) hc
    unfold fX4_readClause
    rw [oK_of (sh19 (hs _ hc.1 _ _ _ _ _)), rf19_0 (hs _ hc.1 _ _ _ _ _), oNn_of, oK_of (sh19 (hs _ hc.1 _ _ _ _ _)), oI_of, cS_4, oA_k (sh20 (hs _ hc.1 _ _ _ _ _)) (by omega) (by decide), oI_of, clm (by omega), cS_K hc hk, oK_of (sh19 (hs _ hc.1 _ _ _ _ _)), rf19_7 (hs _ hc.1 _ _ _ _ _), oNn_of, oR_of (sh23 (hs _ hc.1 _ _ _ _ _)), c_beginClause hc.1 hn h6, oB_of, oK_of (sh19 (hs _ hcB.1 _ _ _ _ _)), oI_of, cS_6 hcB, if_neg (by decide), oR_of (sh19 (hs _ hcB.1 _ _ _ _ _))]
  have hcB : LXc t false (bCl c n (tK t k)) := CFr_LX (kB _) hc
  have B6 : mI (bCl c n (tK t k)) 23 6 = nI (n + 1) := (kB (tK t k)).2.2.2.2.2.2.1
  have B26 : mI (bCl c n (tK t k)) 26 n = tK t k := by show upd (mI c 26) n (tK t k) n = _; rw [pk_us]
  have B28 : ∀ j, j < 4 → mI (bCl c n (tK t k)) 28 (4 * n + j) = -1 := by
    intro j hj
    show stF (mI c 28) n 4 (4 * n + j) = -1
    unfold stF
    rw [if_pos (by omega)]
  by_cases hh : ∃ h, h < 4 ∧ tK t k = nI (256 + h)
  · obtain ⟨h, h4, eK⟩ := hh
    have kM : k < tM t := TkO_lt hT hk (by rw [eK]; exact nIne (b := 286) (by omega) (by omega) (by decide))
    have hdE : hdA (tK t k) 4 = nI h := by rw [eK, hdA_y h h4]
    have nm1 : ¬ nI h = -1 := by
      intro w
      have := congrArg Int32.toInt w
      rw [nI_toInt (by omega)] at this
      have m1 : (-1 : Int32).toInt = -1 := by decide
      omega
    have ref : fX9_readLaw (rS t m k nc p np no op ar pl pa) 45 = (if nI h = 3 then bX9_readLaw_135 (rS t (mA m n nc (nI h)) (k + 1) nc p np no op ar pl pa) 45 (nI (8 * n)) else oB (fX9_readExpression (rS t (mA m n nc (nI h)) (k + 1) nc p np no op ar pl pa) 45 0) (fun _ u26 => bX9_readLaw_135 u26 45 (nI (8 * n)))) := by
      rw [r_readLaw hT hm.1 hk, hdE, if_neg nm1, if_neg n12, r_54ok hm kM hn h21]
    have hmA : LXm t false (mA m n nc (nI h)) := hM _ mA_BFr hm.2.2.1
    have hMA : ∀ m', BFr (mA m n nc (nI h)) m' → mI m' 45 19 = 0 → LXm t false m' := fun m' a b => hM m' (BFr_trans mA_BFr a) b
    -- what is behind the body
    have tail : ∀ (c2 : Mm) (k1 p1 L1 : Nat) (cd1 wt1 : Nat → Int32) (nc1 np1 no1 : Nat) (op1 ar1 pl1 pa1 : Nat → Int32) (fS : (Nat → Int32) → Int64), fX4_readLaw (cS (bCl c n (tK t k)) k p L cd wt) 19 (tK t k) = some (1, cS c2 k1 p1 L1 cd1 wt1) → fX9_readLaw (rS t m k nc p np no op ar pl pa) 45 = bX9_readLaw_135 (rS t (mA m n nc (nI h)) k1 nc1 p1 np1 no1 op1 ar1 pl1 pa1) 45 (nI (8 * n)) → k < k1 → k1 ≤ tM t → p ≤ p1 → p1 ≤ 50 → L ≤ L1 → L1 ≤ k1 → (∀ j, j < L → cd1 j = cd j ∧ wt1 j = wt j) → (L1 = L ∨ cd1 L = 288) → nc ≤ nc1 → nc1 ≤ k1 → (∀ j, j < nc → op1 j = op j ∧ ar1 j = ar j) → LXc t false c2 → CFr c c2 n → mI c2 26 n = nI (256 + h) → mI c2 28 (4 * n + 3) = -1 → sv fS → (h ≠ 3 → mI c2 28 (4 * n) = nI (L + 1) ∧ L + 1 ≤ L1 ∧ SegC cd1 wt1 L1 fS (L + 1) ∧ SegR false op1 ar1 fS nc nc1) → LCl t c m k p L nc np no n cd wt op ar pl pa := by
      intro c2 k1 p1 L1 cd1 wt1 nc1 np1 no1 op1 ar1 pl1 pa1 fS e1 e2 q1 q2 q3 q4 q5 q6 q7 q8 q9 q10 q11 q12 q13 q14 q15 q16 q17
      unfold LCl
      rw [cl, e1, oB_of, e2]
      rcases J_lif (cd := cd1) (wt := wt1) (np := np1) (no := no1) (op := op1) (ar := ar1) (pl := pl1) (pa := pa1) hT q12 hmA hMA q2 q6 q4 q10 hn q13.2.2.2.2.2.2.1 with ⟨k', p', L', cd', wt', s, a1, a2, a3, a4, a5⟩ | ⟨tt, fV, k', p', L', cd', wt', nc', np', no', op', ar', pl', pa', a1, a2, a3, a4, a5, a6, a7, a8, a9, a10, a11, a12, a13, a14, a15, a16, a17⟩
      · refine ⟨0, _, k', p', L', cd', wt', a1, by omega, a3, CFr_28 q13, Or.inl ⟨rfl, s, a4, ?_⟩⟩
        obtain ⟨m', w1, w2, w3, w4, w5, w6, w7, w8, w9, w10, w11, w12, w13⟩ := a5
        exact ⟨m', w1, w2, w3, w4, w5, w6, w7, w8, w9, w10, BFr_trans mA_BFr w11, w12, w13⟩
      · have e28 : ∀ i, i ≠ 4 * n + 3 → mI (if tt = true then wI c2 28 (upd (mI c2 28) (4 * n + 3) (nI (L1 + 1))) else c2) 28 i = mI c2 28 i := by
          intro i hi
          cases tt with
          | true => show upd (mI c2 28) (4 * n + 3) (nI (L1 + 1)) i = _; rw [pk_un hi]
          | false => rfl
        have kc : CFr c (if tt = true then wI c2 28 (upd (mI c2 28) (4 * n + 3) (nI (L1 + 1))) else c2) n := by
          cases tt with
          | true => exact CFr_28 q13
          | false => exact q13
        have e26 : mI (if tt = true then wI c2 28 (upd (mI c2 28) (4 * n + 3) (nI (L1 + 1))) else c2) 26 n = nI (256 + h) := by cases tt <;> exact q14
        have bf : BFr m (wI (mD (mA m n nc (nI h)) n nc1) 55 (upd (mI (mD (mA m n nc (nI h)) n nc1) 55) (8 * n + 6) (nI nc'))) := BFr_trans mA_BFr (BFr_trans mD_BFr BFr_55)
        have m55 : ∀ i, mI (wI (mD (mA m n nc (nI h)) n nc1) 55 (upd (mI (mD (mA m n nc (nI h)) n nc1) 55) (8 * n + 6) (nI nc'))) 55 i = upd (upd (upd (upd (upd (zF (mI m 55) 8 n 8) (8 * n) (nI h)) (8 * n + 3) (nI nc)) (8 * n + 4) (nI nc1)) (8 * n + 5) (nI nc1)) (8 * n + 6) (nI nc') i := fun i => rfl
        refine ⟨1, _, k', p', L', cd', wt', a1, by omega, a4, kc, Or.inr ⟨rfl, by omega, a6, by omega, a8, fun j hj => ?_, ?_, _, nc', np', no', op', ar', pl', pa', h, tt, fV, fS, a2, bf, hm.2.2.1, rfl, mA_21 (m := m) (n := n) (nc := nc) (hd := nI h), fun i hi => ?_, by omega, a14, fun j hj => ?_, h4, a11, q16, ⟨e26, fun ht => ?_, fun ht => ?_, fun h3 => ?_⟩, ⟨?_, fun ht => ?_, fun ht => ?_, fun h3 => ?_⟩⟩⟩
        · exact ⟨(a9 j (by omega)).1.trans (q7 j hj).1, (a9 j (by omega)).2.trans (q7 j hj).2⟩
        · by_cases z : L1 = L
          · rcases a10 with w | w
            · exact Or.inl (by omega)
            · exact Or.inr (by rw [← z]; exact w)
          · exact Or.inr (by rw [(a9 L (by omega)).1]; exact q8.resolve_left z)
        · rw [m55, pk_un (by omega), pk_un (by omega), pk_un (by omega), pk_un (by omega), pk_un (by omega)]
          unfold zF
          rw [if_neg (by omega)]
        · exact ⟨(a15 j (by omega)).1.trans (q11 j hj).1, (a15 j (by omega)).2.trans (q11 j hj).2⟩
        · refine ⟨L1 + 1, ?_, ?_, a12 ht⟩
          · obtain ⟨b, p2, -, w1, w2, -⟩ := a12 ht
            have := (w2 (fun _ => 0)).1
            omega
          · subst ht
            show upd (mI c2 28) (4 * n + 3) (nI (L1 + 1)) (4 * n + 3) = _
            rw [pk_us]
        · subst ht; exact q15
        · obtain ⟨w1, w2, w3, w4⟩ := q17 h3
          exact ⟨L + 1, by omega, by rw [e28 (4 * n) (by omega)]; exact w1, SegC_up w3 a7 a9 a10⟩
        · rw [m55, pk_un (by omega), pk_un (by omega), pk_un (by omega), pk_un (by omega), pk_us]
        · exact ⟨nc1, nc', Nat.le_refl _, by rw [m55, pk_un (by omega), pk_us], by rw [m55, pk_us], a16 ht⟩
        · refine ⟨nc1, by omega, by rw [m55, pk_un (by omega), pk_us], by rw [m55, pk_us, a17 ht]⟩
        · obtain ⟨w1, w2, w3, w4⟩ := q17 h3
          exact ⟨nc, nc1, a13, by rw [m55, pk_un (by omega), pk_un (by omega), pk_un (by omega), pk_us], by rw [m55, pk_un (by omega), pk_un (by omega), pk_us], SegR_up w4 (Nat.le_refl _) a15⟩
    by_cases h3 : h = 3
    · subst h3
      have e259 : tK t k = 259 := eK
      refine tail (bCl c n (tK t k)) (k + 1) p L cd wt nc np no op ar pl pa (fun _ => 0) ?_ ?_ (by omega) (by omega) (Nat.le_refl p) hp (Nat.le_refl L) (by omega) (fun _ _ => ⟨rfl, rfl⟩) (Or.inl rfl) (Nat.le_refl nc) (by omega) (fun _ _ => ⟨rfl, rfl⟩) hcB (kB _) (B26.trans eK) (B28 3 (by decide)) (fun W _ => show fit 0 from by unfold fit; decide) (fun h3 => absurd rfl h3)
      · unfold fX4_readLaw
        rw [if_pos e259, oR_of (sh19 (hs _ hcB.1 _ _ _ _ _)), c_skipY hT hcB hk (by rw [e259]; decide) rfl, oB_of, oZ1]
      · rw [ref, if_pos (by decide)]
    · have n3 : ¬ nI h = 3 := nIne (b := 3) h3 (by omega) (by decide)
      have n259 : ¬ tK t k = 259 := by rw [eK]; exact nIne (b := 259) (by omega) (by omega) (by decide)
      have hcB1 : LXc t false (wI (bCl c n (tK t k)) 28 (upd (mI (bCl c n (tK t k)) 28) (4 * n + 0) (nI (L + 1)))) := CFr_LX (CFr_28 (kB _)) hc
      obtain ⟨r, k1, p1, L1, cd1, wt1, a1, a2, a3, a4⟩ := E_sum (np := np) (no := no) (op := op) (ar := ar) (pl := pl) (pa := pa) (cd := upd cd L 288) (wt := upd wt L 0) (nc := nc) hT hcB1 hmA (show 1 ≤ k + 1 by omega) (show k + 1 ≤ tM t by omega) (show L + 1 ≤ k + 1 by omega) hp (show nc ≤ k + 1 by omega)
      have X : r = 0 ∨ r = 1 := a4.elim (fun h => Or.inl h.1) (fun h => Or.inr h.1)
      have bh := c_behind hT hcB hk (x := tK t k) (by rw [eK]; exact nIne (b := 286) (by omega) (by omega) (by decide)) rfl hn B6 (j := 0) (by decide) (show L < 401 by omega) X a1
      have bd : fX4_readLaw (cS (bCl c n (tK t k)) k p L cd wt) 19 (tK t k) = some (r, cS (wI (bCl c n (tK t k)) 28 (upd (mI (bCl c n (tK t k)) 28) (4 * n + 0) (nI (L + 1)))) k1 p1 L1 cd1 wt1) := by
        have h34 : bX4_readLaw_34 (cS (bCl c n (tK t k)) k p L cd wt) 19 (tK t k) = some (r, cS (wI (bCl c n (tK t k)) 28 (upd (mI (bCl c n (tK t k)) 28) (4 * n + 0) (nI (L + 1)))) k1 p1 L1 cd1 wt1) := by
          unfold bX4_readLaw_34 bX4_readLaw_48
          rw [oR_of (sh19 (hs _ hcB.1 _ _ _ _ _)), show (0 : Int32) = nI 0 from rfl, bh, oB_of, show nI 0 = (0 : Int32) from rfl]
          rcases X with rfl | rfl
          · rw [if_pos rfl, oZ0]
          · rw [if_neg (by decide), oZ1]
        unfold fX4_readLaw
        rw [if_neg n259]
        rcases (show h = 0 ∨ h = 1 ∨ h = 2 by omega) with rfl | rfl | rfl
        · rw [if_pos (show tK t k = 256 from eK), h34]
        · rw [if_neg (show ¬ tK t k = 256 by rw [eK]; decide), if_pos (show tK t k = 257 from eK), h34]
        · rw [if_neg (show ¬ tK t k = 256 by rw [eK]; decide), if_neg (show ¬ tK t k = 257 by rw [eK]; decide), if_pos (show tK t k = 258 from eK), h34]
      rcases a4 with ⟨rfl, nc', nl', np', no', op', ar', pl', pa', b1⟩ | ⟨rfl, b1, b2, b3, b4, b5, b6, f, e, op', ar', pl', pa', f1, f2, f3, f4, f5, f6, f7⟩
      · unfold LCl
        rw [cl, bd, oB_of, ref, if_neg n3, b1, oB_of]
        have hB1 : hSh (mB t (mA m n nc (nI h)) k1) := hm.1
        have e38 : bX4_readClause_38 (cS (wI (bCl c n (tK t k)) 28 (upd (mI (bCl c n (tK t k)) 28) (4 * n + 0) (nI (L + 1)))) k1 p1 L1 cd1 wt1) 19 0 = some (0, cS (wI (bCl c n (tK t k)) 28 (upd (mI (bCl c n (tK t k)) 28) (4 * n + 0) (nI (L + 1)))) k1 p1 L1 cd1 wt1) := by
          unfold bX4_readClause_38
          rw [if_pos rfl, oZ0]
        rw [e38, r_135 hB1 hn, if_neg (show ¬ mI (mB t (mA m n nc (nI h)) k1) 45 19 = 0 by show ¬ (1 : Int32) = 0; decide), r_185 (m := mD (mB t (mA m n nc (nI h)) k1) n nc') hB1 hn]
        exact ⟨0, _, k1, p1, L1, cd1, wt1, rfl, by omega, a3, CFr_28 (kB _), Or.inl ⟨rfl, _, rfl, _, k1, nc', nl', np', no', op', ar', pl', pa', rfl, BFr_trans mA_BFr (BFr_trans BFr_B (BFr_trans mD_BFr BFr_55)), rfl, rfl⟩⟩
      · refine tail _ k1 p1 L1 cd1 wt1 e 0 0 op' ar' pl' pa' f bd ?_ (by omega) a3 (by omega) b3 (by omega) (by omega) (fun j hj => ?_) (Or.inr ?_) (by omega) f6 f4 hcB1 (CFr_28 (kB _)) (B26.trans eK) ?_ f2 (fun _ => ⟨?_, by omega, ⟨L1, p1 - p, by omega, Nat.le_refl _, f1, Or.inl rfl⟩, ⟨f5, by omega, p1 - p, by omega, f7⟩⟩)
        · rw [ref, if_neg n3, f3, oB_of]
        · have := b6 j (by omega)
          rw [pk_un (by omega), pk_un (by omega)] at this
          exact this
        · rw [(b6 L (by omega)).1, pk_us]
        · show upd (mI (bCl c n (tK t k)) 28) (4 * n + 0) (nI (L + 1)) (4 * n + 3) = -1
          rw [pk_un (by omega)]; exact B28 3 (by decide)
        · show upd (mI (bCl c n (tK t k)) 28) (4 * n + 0) (nI (L + 1)) (4 * n) = _
          rw [Nat.add_zero, pk_us]
  · have hh' : ∀ j, j < 4 → ¬ tK t k = nI (256 + j) := fun j hj e => hh ⟨j, hj, e⟩
    have bd : fX4_readLaw (cS (bCl c n (tK t k)) k p L cd wt) 19 (tK t k) = some (0, cS (bCl c n (tK t k)) k p L cd wt) := by
      unfold fX4_readLaw bX4_readLaw_48
      rw [if_neg (show ¬ tK t k = 259 from hh' 3 (by decide)), if_neg (show ¬ tK t k = 256 from hh' 0 (by decide)), if_neg (show ¬ tK t k = 257 from hh' 1 (by decide)), if_neg (show ¬ tK t k = 258 from hh' 2 (by decide)), oZ0]
    have e38 : bX4_readClause_38 (cS (bCl c n (tK t k)) k p L cd wt) 19 0 = some (0, cS (bCl c n (tK t k)) k p L cd wt) := by
      unfold bX4_readClause_38
      rw [if_pos rfl, oZ0]
    unfold LCl
    rw [cl, bd, oB_of, e38, r_readLaw hT hm.1 hk, hdA_n 4 hh', if_pos rfl, r_54bad hm]
    exact ⟨0, _, k, p, L, cd, wt, rfl, Nat.le_refl k, hk, kB _, Or.inl ⟨rfl, _, rfl, _, k, nc, p, np, no, op, ar, pl, pa, rfl, BFr_B, rfl, rfl⟩⟩
end
