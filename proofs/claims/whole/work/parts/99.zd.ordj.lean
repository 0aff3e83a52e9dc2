/-! ===== a clause of orders, joined ===== -/
def mS (m : Mm) (x a b : Nat) : Mm := w9 (w9 m x (nI a)) (x + 1) (nI b)
set_option maxRecDepth 100000 in
theorem mS_BFr {m : Mm} {x a b : Nat} : BFr m (mS m x a b) := BFr_trans BFr_w9 BFr_w9
section
variable {t : Tk} {c m : Mm} {k p L nc np no n : Nat} {cd wt op ar pl pa : Nat → Int32}
set_option maxRecDepth 100000 in
theorem J_osum (hT : TkO t) (hc : LXc t true c) (hm : LXm t true m) (hM : ∀ m', BFr m m' → mI m' 45 19 = 0 → LXm t true m') (hk : k ≤ tM t) (hL : L ≤ k) (hp : p ≤ 50) (hnc : nc ≤ k) (hn : n < 12) (h6 : mI c 23 6 = nI (n + 1)) {x : Int32} (hx : ¬ x = 286) (hK : tK t k = x) {j : Nat} (hj : j < 4) {X : Nat} (hX : X + 1 < 120) :
  ∃ r k' p' L' cd' wt', fX4_readSumBehind (cS c k p L cd wt) 19 x (nI j) = some (r, cS (wI c 28 (upd (mI c 28) (4 * n + j) (nI (L + 1)))) k' p' L' cd' wt') ∧ k < k' ∧ k' ≤ tM t ∧
  ((r = 0 ∧ ∃ s, fX9_readSum (rS t m (k + 1) nc p np no op ar pl pa) 45 (nI X) = some ((), s) ∧ Bad9 t m s k') ∨
   (r = 1 ∧ p ≤ p' ∧ p' ≤ 50 ∧ L + 1 ≤ L' ∧ L' ≤ k' ∧ (∀ i, i < L → cd' i = cd i ∧ wt' i = wt i) ∧ cd' L = 288 ∧ ∃ f nc' op' ar' pl' pa', fX9_readSum (rS t m (k + 1) nc p np no op ar pl pa) 45 (nI X) = some ((), rS t (mS m X nc nc') k' nc' p' 0 0 op' ar' pl' pa') ∧ nc ≤ nc' ∧ nc' ≤ k' ∧ (∀ i, i < nc → op' i = op i ∧ ar' i = ar i) ∧ sv f ∧ SegC cd' wt' L' f (L + 1) ∧ SegR true op' ar' f nc nc')) := by
  have h400 := hT.1
  have kM : k < tM t := TkO_lt hT hk (by rw [hK]; exact hx)
  have hm1 : LXm t true (w9 m X (nI nc)) := hM _ BFr_w9 hm.2.2.1
  have hc1 : LXc t true (wI c 28 (upd (mI c 28) (4 * n + j) (nI (L + 1)))) := ⟨hc.1, hc.2.1, hc.2.2⟩
  obtain ⟨r, k', p', L', cd', wt', a1, a2, a3, a4⟩ := E_sum (np := np) (no := no) (op := op) (ar := ar) (pl := pl) (pa := pa) (cd := upd cd L 288) (wt := upd wt L 0) (nc := nc) hT hc1 hm1 (show 1 ≤ k + 1 by omega) (show k + 1 ≤ tM t by omega) (show L + 1 ≤ k + 1 by omega) hp (show nc ≤ k + 1 by omega)
  have R : r = 0 ∨ r = 1 := a4.elim (fun h => Or.inl h.1) (fun h => Or.inr h.1)
  have bh := c_behind hT hc hk (x := x) hx hK hn h6 hj (show L < 401 by omega) R a1
  have rs : fX9_readSum (rS t m (k + 1) nc p np no op ar pl pa) 45 (nI X) = oB (fX9_readExpression (rS t (w9 m X (nI nc)) (k + 1) nc p np no op ar pl pa) 45 0) (fun _ u8 => bX9_readSum_22 u8 45 (nI X)) := by rw [r_sum hm.1 hX, if_pos hm.2.2.1]
  rw [rs]
  refine ⟨r, k', p', L', cd', wt', bh, by omega, a3, ?_⟩
  rcases a4 with ⟨rfl, nc', nl', np', no', op', ar', pl', pa', b1⟩ | ⟨rfl, b1, b2, b3, b4, b5, b6, f, e, op', ar', pl', pa', f1, f2, f3, f4, f5, f6, f7⟩
  · rw [b1, oB_of, r_22 (m := mB t (w9 m X (nI nc)) k') hm.1 hX]
    exact Or.inl ⟨rfl, _, rfl, _, k', nc', nl', np', no', op', ar', pl', pa', rfl, BFr_trans BFr_w9 (BFr_trans BFr_B BFr_w9), rfl, rfl⟩
  · rw [f3, oB_of, r_22 (m := w9 m X (nI nc)) hm.1 hX]
    refine Or.inr ⟨rfl, by omega, b3, by omega, by omega, fun i hi => ?_, ?_, f, e, op', ar', pl', pa', rfl, by omega, f6, f4, f2, ⟨L', p' - p, by omega, Nat.le_refl _, f1, Or.inl rfl⟩, ⟨f5, by omega, p' - p, by omega, f7⟩⟩
    · have := b6 i (by omega)
      rw [pk_un (by omega), pk_un (by omega)] at this
      exact this
    · rw [(b6 L (by omega)).1, pk_us]
set_option maxRecDepth 100000 in
theorem J_oif (hT : TkO t) (hc : LXc t true c) (hm : LXm t true m) (hM : ∀ m', BFr m m' → mI m' 45 19 = 0 → LXm t true m') (hk : k ≤ tM t) (hL : L ≤ k) (hp : p ≤ 50) (hnc : nc ≤ k) (hn : n < 12) (h6 : mI c 23 6 = nI (n + 1)) :
  (∃ k' p' L' cd' wt' s, bX4_readClause_38 (cS c k p L cd wt) 19 1 = some (0, cS (wI c 28 (upd (mI c 28) (4 * n + 3) (nI (L + 1)))) k' p' L' cd' wt') ∧ k ≤ k' ∧ k' ≤ tM t ∧ bX9_readOrder_209 (rS t m k nc p np no op ar pl pa) 45 (nI (10 * n)) = some ((), s) ∧ Bad9 t m s k') ∨
  (∃ (tt : Bool) (fV : (Nat → Int32) → Int64) (k' p' L' : Nat) (cd' wt' : Nat → Int32) (nc' np' no' : Nat) (op' ar' pl' pa' : Nat → Int32), bX4_readClause_38 (cS c k p L cd wt) 19 1 = some (1, cS (if tt = true then wI c 28 (upd (mI c 28) (4 * n + 3) (nI (L + 1))) else c) k' p' L' cd' wt') ∧ bX9_readOrder_209 (rS t m k nc p np no op ar pl pa) 45 (nI (10 * n)) = some ((), rS t (mS m (10 * n + 7) nc nc') k' nc' p' np' no' op' ar' pl' pa') ∧ k ≤ k' ∧ k' ≤ tM t ∧ p ≤ p' ∧ p' ≤ 50 ∧ L ≤ L' ∧ L' ≤ k' ∧ (∀ j, j < L → cd' j = cd j ∧ wt' j = wt j) ∧ (L' = L ∨ cd' L = 288) ∧ tvf fV ∧ (tt = true → SegC cd' wt' L' fV (L + 1)) ∧ nc ≤ nc' ∧ nc' ≤ k' ∧ (∀ j, j < nc → op' j = op j ∧ ar' j = ar j) ∧ (tt = true → SegR true op' ar' fV nc nc') ∧ (tt = false → nc' = nc)) := by
  have h400 := hT.1
  have hmD : LXm t true (w9 m (10 * n + 7) (nI nc)) := hM _ BFr_w9 hm.2.2.1
  have hsD : ∀ k, hSh (rS t (w9 m (10 * n + 7) (nI nc)) k nc p np no op ar pl pa) := fun _ => hm.1
  have w294 : fX9_isWord (rS t (w9 m (10 * n + 7) (nI nc)) k nc p np no op ar pl pa) 45 294 = some (if tK t k = 268 then 1 else 0, rS t (w9 m (10 * n + 7) (nI nc)) k nc p np no op ar pl pa) := r_wd hT hmD.1 hk (i := 12) (w := 294) (by decide) rfl
  by_cases hI : tK t k = 268
  · have kM : k < tM t := TkO_lt hT hk (by rw [hI]; decide)
    have hc1 : LXc t true (wI c 28 (upd (mI c 28) (4 * n + 3) (nI (L + 1)))) := ⟨hc.1, hc.2.1, hc.2.2⟩
    obtain ⟨r, k', p', L', cd', wt', a1, a2, a3, a4⟩ := E_test (np := np) (no := no) (op := op) (ar := ar) (pl := pl) (pa := pa) (cd := upd cd L 288) (wt := upd wt L 0) (nc := nc) hT hc1 hmD (show 1 ≤ k + 1 by omega) (show k + 1 ≤ tM t by omega) (show L + 1 ≤ k + 1 by omega) hp (show nc ≤ k + 1 by omega)
    have X : r = 0 ∨ r = 1 := a4.elim (fun h => Or.inl h.1) (fun h => Or.inr h.1)
    have cx := c_38Y hT hc hk hI hn h6 (show L < 401 by omega) X a1
    have rx : bX9_readOrder_209 (rS t m k nc p np no op ar pl pa) 45 (nI (10 * n)) = oB (fX9_readExpression (rS t (w9 m (10 * n + 7) (nI nc)) (k + 1) nc p np no op ar pl pa) 45 1) (fun _ u25 => bX9_readOrder_248 u25 45 (nI (10 * n))) := by
      rw [r_209 hm.1 hn, if_pos hm.2.2.1, w294, oB_of, if_pos hI, if_neg (by decide), oR_of (sh45 (hsD _)), r_next hmD kM, oB_of, oR_of (sh45 (hsD _))]
    rw [cx, rx]
    rcases a4 with ⟨rfl, nc', nl', np', no', op', ar', pl', pa', b1⟩ | ⟨rfl, b1, b2, b3, b4, b5, b6, f, e, op', ar', pl', pa', f1, f2, f3, f4, f5, f6, f7⟩
    · rw [b1, oB_of, r_248 (m := mB t (w9 m (10 * n + 7) (nI nc)) k') hm.1 hn]
      exact Or.inl ⟨k', p', L', cd', wt', _, rfl, by omega, a3, rfl, _, k', nc', nl', np', no', op', ar', pl', pa', rfl, BFr_trans BFr_w9 (BFr_trans BFr_B BFr_w9), rfl, rfl⟩
    · rw [f3, oB_of, r_248 (m := w9 m (10 * n + 7) (nI nc)) hm.1 hn]
      refine Or.inr ⟨true, f, k', p', L', cd', wt', e, 0, 0, op', ar', pl', pa', rfl, rfl, by omega, a3, by omega, b3, by omega, by omega, fun j hj => ?_, Or.inr ?_, f2, fun _ => ⟨L', p' - p, by omega, Nat.le_refl _, f1, Or.inl rfl⟩, by omega, f6, f4, fun _ => ⟨f5, by omega, p' - p, by omega, f7⟩, fun h => absurd h (by decide)⟩
      · have := b6 j (by omega)
        rw [pk_un (by omega), pk_un (by omega)] at this
        exact this
      · rw [(b6 L (by omega)).1, pk_us]
  · have rx : bX9_readOrder_209 (rS t m k nc p np no op ar pl pa) 45 (nI (10 * n)) = bX9_readOrder_248 (rS t (w9 m (10 * n + 7) (nI nc)) k nc p np no op ar pl pa) 45 (nI (10 * n)) := by
      rw [r_209 hm.1 hn, if_pos hm.2.2.1, w294, oB_of, if_neg hI, if_pos rfl]
    rw [c_38N hT hc hk hI, rx, r_248 (m := w9 m (10 * n + 7) (nI nc)) hm.1 hn]
    exact Or.inr ⟨false, fun _ => 0, k, p, L, cd, wt, nc, np, no, op, ar, pl, pa, rfl, rfl, Nat.le_refl k, hk, Nat.le_refl p, hp, Nat.le_refl L, hL, fun _ _ => ⟨rfl, rfl⟩, Or.inl rfl, fun _ => Or.inl rfl, fun h => absurd h (by decide), Nat.le_refl nc, hnc, fun _ _ => ⟨rfl, rfl⟩, fun h => absurd h (by decide), fun _ => rfl⟩
set_option maxRecDepth 100000 in
/-- how often -/
theorem J_times (hT : TkO t) (hc : LXc t true c) (hm : LXm t true m) (hM : ∀ m', BFr m m' → mI m' 45 19 = 0 → LXm t true m') (hk : k ≤ tM t) (hn : n < 12) (h6 : mI c 23 6 = nI (n + 1)) (h27 : mI c 27 n = 1) :
  (∃ k' s, bX4_readOrder_141 (cS c k p L cd wt) 19 1 = some (0, cS c k' p L cd wt) ∧ k ≤ k' ∧ k' ≤ tM t ∧ bX9_readOrder_161 (rS t m k nc p np no op ar pl pa) 45 (nI (10 * n)) = some ((), s) ∧ Bad9 t m s k') ∨
  (∃ x k' m', 1 ≤ x ∧ x ≤ 20 ∧ bX4_readOrder_141 (cS c k p L cd wt) 19 1 = some (1, cS (wI c 27 (upd (mI c 27) n (nI x))) k' p L cd wt) ∧ k ≤ k' ∧ k' ≤ tM t ∧ bX9_readOrder_161 (rS t m k nc p np no op ar pl pa) 45 (nI (10 * n)) = bX9_readOrder_209 (rS t m' k' nc p np no op ar pl pa) 45 (nI (10 * n)) ∧ BFr m m' ∧ (∀ j, mI m' 45 j = mI m 45 j) ∧ mI m' 69 (10 * n + 9) = nI x ∧ ∀ i, i ≠ 10 * n + 9 → mI m' 69 i = mI m 69 i) := by
  have h400 := hT.1
  have hs : ∀ c', hSh c' → ∀ k, hSh (cS c' k p L cd wt) := fun _ h _ => h
  have hm1 : LXm t true (w9 m (10 * n + 9) 1) := hM _ BFr_w9 hm.2.2.1
  have hs1 : ∀ k, hSh (rS t (w9 m (10 * n + 9) 1) k nc p np no op ar pl pa) := fun _ => hm.1
  have wt_ : fX9_isWord (rS t (w9 m (10 * n + 9) 1) k nc p np no op ar pl pa) 45 21279923 = some (if tK t k = 267 then 1 else 0, rS t (w9 m (10 * n + 9) 1) k nc p np no op ar pl pa) := r_wd hT hm1.1 hk (i := 11) (w := 21279923) (by decide) rfl
  by_cases z : tK t k = 267
  · have kM : k < tM t := TkO_lt hT hk (by rw [z]; decide)
    have cT : bX4_readOrder_141 (cS c k p L cd wt) 19 1 = oB (fX4_readTimes (cS c (k + 1) p L cd wt) 19) (fun v5 u6 => (if (v5 : Int32) = 0 then bX4_readOrder_167 u6 0 else bX4_readOrder_162 u6)) := by
      unfold bX4_readOrder_141
      rw [if_neg (by decide), oR_of (sh19 (hs _ hc.1 _)), c_skipY hT hc hk (by decide) z, oB_of, if_neg (by decide), oR_of (sh19 (hs _ hc.1 _))]
    have rT : bX9_readOrder_161 (rS t m k nc p np no op ar pl pa) 45 (nI (10 * n)) = oB (fX9_number (rS t (w9 m (10 * n + 9) 1) (k + 1) nc p np no op ar pl pa) 45 1 20) (fun v27 u28 => oA u28 69 10 (nI (10 * n + 9)) (oU (wI u28 69 (upd (mI u28 69) (10 * n + 9) v27)) (fun u29 => bX9_readOrder_209 u29 45 (nI (10 * n))))) := by
      rw [r_161 hm.1 hn, if_pos hm.2.2.1, wt_, oB_of, if_pos z, if_neg (by decide), oR_of (sh45 (hs1 _)), r_next hm1 kM, oB_of, oK_of (sh45 (hs1 _)), rf45_46 (hs1 _), oNn_of, oR_of (sh45 (hs1 _))]
    rw [cT, rT]
    rcases r_number (nc := nc) (nl := p) (np := np) (no := no) (op := op) (ar := ar) (pl := pl) (pa := pa) hT hm1 (k := k + 1) (by omega) (hi := 20) (by decide) (lo := 1) (l := 1) (h := 20) rfl rfl (by decide) with ⟨x, x1, x2, x3, x4, x5, x6⟩ | ⟨x1, v, x2⟩
    · rw [x6, oB_of, oA_k (sh69 (hs1 _)) (by omega) (by decide), oU_of, rS_69u]
      refine Or.inr ⟨x, k + 2, w9 (w9 m (10 * n + 9) 1) (10 * n + 9) (nI x), x1, x2, ?_, by omega, by omega, rfl, BFr_trans BFr_w9 BFr_w9, fun j => rfl, w9_at, fun i hi => by rw [w9_un hi, w9_un hi]⟩
      have st : fX6_setTimes (cS c (k + 2) p L cd wt) 23 (nI x) = some ((), cS (wI c 27 (upd (mI c 27) n (nI x))) (k + 2) p L cd wt) := by
        unfold fX6_setTimes
        rw [oK_of (sh23 (hs _ hc.1 _)), oI_of, cS_f6, h6, if_neg (nI_nle (by omega) (by omega)), oK_of (sh23 (hs _ hc.1 _)), rf23_4 (hs _ hc.1 _), oNn_of, oK_of (sh23 (hs _ hc.1 _)), oI_of, nI_pred, oA_k (sh27 (hs _ hc.1 _)) hn (by decide), clm (by omega), oU_of, cS_27]
      unfold fX4_readTimes bX4_readOrder_162 bX4_readOrder_167
      rw [oK_of (sh19 (hs _ hc.1 _)), rf19_1 (hs _ hc.1 _), oNn_of, oK_of (sh19 (hs _ hc.1 _)), oI_of, cS_4, oA_k (sh21 (hs _ hc.1 _)) (by omega) (by decide), oI_of, clm (by omega), cS_V hc (by omega), x4, c_within, oB_of, if_pos (show (1 : Int32) ≤ nI x ∧ nI x ≤ 20 from ⟨nI_le (a := 1) x1 (by omega), nI_le (b := 20) x2 (by decide)⟩), if_neg (by decide), oR_of (sh19 (hs _ hc.1 _)), c_skipY hT hc (by omega) (by decide) x3, oB_of, if_neg (by decide), oK_of (sh19 (hs _ hc.1 _)), rf19_7 (hs _ hc.1 _), oNn_of, oR_of (sh23 (hs _ hc.1 _)), st, oB_of, oZ1, oB_of, if_neg (by decide), oZ1]
    · rw [x2, oB_of, oA_k (sh69 (show hSh (rS t (mB t (w9 m (10 * n + 9) 1) (k + 1)) (k + 1) nc p np no op ar pl pa) from hm.1)) (by omega) (by decide), oU_of, rS_69u]
      obtain ⟨s, s1, s2⟩ := b_209 (t := t) (n := n) hm.1 hn (s := rS t (w9 (mB t (w9 m (10 * n + 9) 1) (k + 1)) (10 * n + 9) v) (k + 1) nc p np no op ar pl pa) (k' := k + 1) ⟨_, k + 1, nc, p, np, no, op, ar, pl, pa, rfl, BFr_trans BFr_w9 (BFr_trans BFr_B BFr_w9), rfl, rfl⟩
      refine Or.inl ⟨k + 1, s, ?_, by omega, by omega, s1, s2⟩
      unfold fX4_readTimes bX4_readOrder_162 bX4_readOrder_167
      rw [oK_of (sh19 (hs _ hc.1 _)), rf19_1 (hs _ hc.1 _), oNn_of, oK_of (sh19 (hs _ hc.1 _)), oI_of, cS_4, oA_k (sh21 (hs _ hc.1 _)) (by omega) (by decide), oI_of, clm (by omega), cS_V hc (by omega), c_within, oB_of]
      by_cases y : (1 : Int32) ≤ tV t (k + 1) ∧ tV t (k + 1) ≤ 20
      · have nk : ¬ tK t (k + 1) = 285 := fun e => x1 ⟨e, y.1, y.2⟩
        rw [if_pos y, if_neg (by decide), oR_of (sh19 (hs _ hc.1 _)), c_skipN hT hc (by omega) (by decide) nk, oB_of, if_pos rfl, oZ0, oB_of, if_pos rfl, oZ0]
      · rw [if_neg y, if_pos rfl, oZ0, oB_of, if_pos rfl, oZ0]
  · refine Or.inr ⟨1, k, w9 m (10 * n + 9) 1, by decide, by decide, ?_, Nat.le_refl k, hk, ?_, BFr_w9, fun j => rfl, w9_at, fun i hi => w9_un hi⟩
    · have e : wI c 27 (upd (mI c 27) n (nI 1)) = c := by
        rw [show upd (mI c 27) n (nI 1) = mI c 27 by
          funext i
          by_cases y : i = n
          · subst y; rw [pk_us, h27]; rfl
          · rw [pk_un y], wI_id]
      rw [e]
      unfold bX4_readOrder_141 bX4_readOrder_162 bX4_readOrder_167
      rw [if_neg (by decide), oR_of (sh19 (hs _ hc.1 _)), c_skipN hT hc hk (by decide) z, oB_of, if_pos rfl, oZ1]
    · rw [r_161 hm.1 hn, if_pos hm.2.2.1, wt_, oB_of, if_neg z, if_pos rfl]
end
