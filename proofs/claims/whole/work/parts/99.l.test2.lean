/-! ===== nots, and, or ===== -/
section
variable {t : Tk} {q : Bool} {c m : Mm}
set_option maxRecDepth 100000 in
theorem c_149 (hc : hSh c) {k p L j : Nat} {cd wt : Nat → Int32} {rT rS_ : Mm → Nat → Int32 → Int32 → Option (Int32 × Mm)} {rP rA : Mm → Nat → Int32 → Option (Int32 × Mm)} (hj : j < 401) (hL : L < 401) : bX4_readPlain_149 rT rS_ rP rA (cS c k p L cd wt) 19 (nI j) = some (1, if j % 2 = 1 then cS c k p (L + 1) (upd cd L 271) (upd wt L 0) else cS c k p L cd wt) := by
  have hs : hSh (cS c k p L cd wt) := hc
  unfold bX4_readPlain_149
  rw [if_pos (by decide), mod2 j hj]
  by_cases z : j % 2 = 1
  · rw [if_pos (show nI (j % 2) = 1 by rw [z]; rfl), oK_of (sh19 hs), rf19_7 hs, oNn_of, oR_of (sh23 hs), c_put hc hL, oB_of, oZ1, if_pos z]
  · rw [if_neg (show ¬ nI (j % 2) = 1 by rw [show j % 2 = 0 by omega]; decide), oZ1, if_neg z]
set_option maxRecDepth 100000 in
theorem J_nots (hT : TkO t) (hc : LXc t q c) (hm : LXm t q m) {n : Nat} (ihS : JS t q c m 1 n 0) (ihT : JT t q c m n 0) {k0 p L nc np br : Nat} {cd wt op ar pl pa : Nat → Int32} (k1 : 1 ≤ k0) (hL : L ≤ k0) (hp : p ≤ 50) (hbr : br ≤ 8) (hTp : Tp pl np 3) (hin : ¬ innF pl np = 32) (hfu : 4 + 4 * (8 - br) ≤ n) {Nf : Nat} : ∀ (d k j : Nat) (plj paj : Nat → Int32), tM t - k ≤ d → k ≤ tM t → k = k0 + j → IV k nc (np + j) plj paj → (∀ i, i < np → plj i = pl i ∧ paj i = pa i) → (∀ i, np ≤ i → i < np + j → plj i = 28) → (∀ N, rX9_readExpression_20 (N + j) (rS t m k0 nc p np br op ar pl pa) 45 1 0 = rX9_readExpression_20 N (rS t m k nc p (np + j) br op ar plj paj) 45 1 0) →
    JTr t q c m 2 k0 p L nc np br cd wt op ar pl pa (rX4_readPlain_4 (frX4 n 0) (frX4 n 2) (fun u a x => frX4 n 1 u a x 0) (fun u a x => frX4 n 3 u a x 0) (Nf + d + 1) (cS c k p L cd wt) 19 (nI br) (nI j) (nI j)) := by
  have h400 := hT.1
  have hs : ∀ k p L cd wt, hSh (cS c k p L cd wt) := fun _ _ _ _ _ => hc.1
  have fin : ∀ (k j : Nat) (plj paj : Nat → Int32), k ≤ tM t → k = k0 + j → IV k nc (np + j) plj paj → (∀ i, i < np → plj i = pl i ∧ paj i = pa i) → (∀ i, np ≤ i → i < np + j → plj i = 28) → (∀ N, rX9_readExpression_20 (N + j) (rS t m k0 nc p np br op ar pl pa) 45 1 0 = rX9_readExpression_20 N (rS t m k nc p (np + j) br op ar plj paj) 45 1 0) → ¬ tK t k = 271 → JTr t q c m 2 k0 p L nc np br cd wt op ar pl pa (bX4_readPlain_30 (frX4 n 0) (frX4 n 2) (fun u a x => frX4 n 1 u a x 0) (fun u a x => frX4 n 3 u a x 0) (cS c k p L cd wt) 19 (nI br) (nI j)) := by
    intro k j plj paj hk ek hIV hag h28 run h271
    have inj : ¬ innF plj (np + j) = 32 := by
      rw [innF_pend j (fun i i1 i2 => by rw [h28 i i1 i2]; decide), innF_eq np (fun i hi => (hag i hi).1)]; exact hin
    have Tp4 : Tp plj (np + j) 4 := by
      by_cases z : j = 0
      · subst z
        rcases Tp_eq hTp (fun i hi => (hag i hi).1) with y | y
        · exact Or.inl (by omega)
        · exact Or.inr (Int32.lt_of_lt_of_le y (by decide))
      · exact Or.inr (by rw [h28 (np + j - 1) (by omega) (by omega)]; decide)
    rcases J_core (j := j) (cd := cd) (wt := wt) (op := op) (ar := ar) hT hc hm ihS ihT (show 1 ≤ k by omega) hk (show L ≤ k by omega) hp hbr hIV Tp4 inj hfu h271 with ⟨k', p', L', cd', wt', a1, a2, a3, a4⟩ | ⟨k', p', L', cd', wt', a1, a2, a3⟩
    · rw [a1]
      exact ⟨0, k', p', L', cd', wt', rfl, by omega, a3, Or.inl ⟨rfl, Bd_pre run (by omega) (by omega) a2 a4⟩⟩
    · obtain ⟨i1, i2, i3, i4, i5, i6, f, f1, f2, st, nc', d, op', ar', pl', pa', e, op'', ar'', x1, x2, x3, x4, x5, x6, x7, x8, x9⟩ := a3
      have hn := x3.1
      have ne : nc < e := (x9 (fun _ => 0)).1
      have hpj : ∀ i, np ≤ i → i < np + j → pl' i = 28 := fun i q1 q2 => by rw [(x4 i q2).1]; exact h28 i q1 q2
      have pj : pot plj (np + j) = pot pl np + j := by
        have g : ∀ i, i ≤ j → pot plj (np + i) = pot pl np + i := by
          intro i
          induction i with
          | zero => intro _; exact pot_eq np (fun i hi => (hag i hi).1)
          | succ i ihi =>
            intro hi
            rw [show np + (i + 1) = np + i + 1 by omega, pot_s, ihi (by omega), h28 (np + i) (by omega) (by omega), if_neg (by decide)]
            omega
        exact g j (Nat.le_refl j)
      rw [pj] at x8
      obtain ⟨op3, ar3, n1, n2, n3⟩ := NotP (t := t) (np := np) (nc := nc) (pl := pl') (pa := pa') (lv := lvM q) (LL := LM q) (pp := p' - p) j e op'' ar'' f hpj (by omega) (by omega) ne f2 x9
      have gd : Gd t q m 1 0 2 3 nBr k0 p nc np br op ar pl pa k' p' (fun W => if j % 2 = 1 then nt (f W) else f W) := by
        refine ⟨j + st, nc', j + d, op', ar', pl', pa', e + j, op3, ar3, by omega, fun N => ?_, ?_, fun i hi => ?_, fun i q1 q2 => ?_, ?_, fun i hi => ?_, by omega, fun W => ?_⟩
        · rw [show N + (j + st) = N + st + j by omega, run, x2, show np + j + d = np + (j + d) by omega]
        · rw [show np + (j + d) = np + j + d by omega]; exact x3
        · exact ⟨(x4 i (by omega)).1.trans (hag i hi).1, (x4 i (by omega)).2.trans (hag i hi).2⟩
        · by_cases z : i < np + j
          · rw [hpj i q1 z]; show (28 : Int32) < 31; decide
          · exact x5 i (by omega) (by omega)
        · exact Pops_trans (Pops_le x6 (by decide)) n1
        · exact ⟨(n2 i hi).1.trans (x7 i hi).1, (n2 i hi).2.trans (x7 i hi).2⟩
        · have := n3 W
          rw [ntN_is j _ (f2 W)] at this
          exact this
      rw [a1, c_149 hc.1 (by omega) (by omega)]
      by_cases z : j % 2 = 1
      · rw [if_pos z]
        refine ⟨1, k', p', L' + 1, upd cd' L' 271, upd wt' L' 0, rfl, by omega, a2, Or.inr ⟨rfl, ntop2 _, by omega, i2, i3, by omega, by omega, fun i hi => ?_, _, fun W => ?_, fun W => tv_ite (f2 W), gd⟩⟩
        · rw [pk_un (by omega), pk_un (by omega)]; exact i6 i hi
        · show CSeg _ _ W L (L' + 1) (p' - p) (if j % 2 = 1 then nt (f W) else f W)
          rw [if_pos z]
          have C1 := CSeg_eq (cd' := upd cd' L' 271) (wt' := upd wt' L' 0) (f1 W) (fun i q1 q2 => by rw [pk_un (by omega), pk_un (by omega)]; exact ⟨rfl, rfl⟩)
          exact CSeg_not C1 (by rw [pk_us])
      · rw [if_neg z]
        refine ⟨1, k', p', L', cd', wt', rfl, by omega, a2, Or.inr ⟨rfl, ntop2 _, by omega, i2, i3, i4, by omega, i6, _, fun W => ?_, fun W => tv_ite (f2 W), gd⟩⟩
        show CSeg _ _ W L L' (p' - p) (if j % 2 = 1 then nt (f W) else f W)
        rw [if_neg z]
        exact f1 W
  intro d
  induction d with
  | zero =>
    intro k j plj paj hd hk ek hIV hag h28 run
    have e : k = tM t := by omega
    have n271 : ¬ tK t k = 271 := by rw [e, hT.2.2.2.2.2.1]; decide
    show JTr t q c m 2 k0 p L nc np br cd wt op ar pl pa (bX4_readPlain_4 _ _ _ _ _ (cS c k p L cd wt) 19 (nI br) (nI j) (nI j))
    unfold bX4_readPlain_4
    rw [if_neg (show ¬ (400 : Int32) ≤ nI j from nI_ge (b := 400) (by omega) (by decide)), oR_of (sh19 (hs _ _ _ _ _)), c_skipN hT hc hk (by decide) n271, oB_of, if_pos rfl]
    exact fin k j plj paj hk ek hIV hag h28 run n271
  | succ d ihd =>
    intro k j plj paj hd hk ek hIV hag h28 run
    show JTr t q c m 2 k0 p L nc np br cd wt op ar pl pa (bX4_readPlain_4 _ _ _ _ (rX4_readPlain_4 (frX4 n 0) (frX4 n 2) (fun u a x => frX4 n 1 u a x 0) (fun u a x => frX4 n 3 u a x 0) (Nf + d + 1)) (cS c k p L cd wt) 19 (nI br) (nI j) (nI j))
    unfold bX4_readPlain_4
    rw [if_neg (show ¬ (400 : Int32) ≤ nI j from nI_ge (b := 400) (by omega) (by decide)), oR_of (sh19 (hs _ _ _ _ _))]
    by_cases h271 : tK t k = 271
    · have kM : k < tM t := TkO_lt hT hk (by rw [h271]; decide)
      have hn := hIV.1
      rw [c_skipY hT hc hk (by decide) h271, oB_of, if_neg (by decide), nI_1]
      refine ihd (k + 1) (j + 1) (upd plj (np + j) 28) (upd paj (np + j) 0) (by omega) (by omega) (by omega) ?_ (fun i hi => ?_) (fun i q1 q2 => ?_) (fun N => ?_)
      · have := IV_push (x := 28) (y := 0) hIV (by decide)
        exact this
      · rw [pk_un (by omega), pk_un (by omega)]; exact hag i hi
      · by_cases z : i = np + j
        · rw [z, pk_us]
        · rw [pk_un z]; exact h28 i q1 (by omega)
      · rw [show N + (j + 1) = N + 1 + j by omega, run, R_0 hm (l_not hT hm hk (by omega) h271)]
        rfl
    · rw [c_skipN hT hc hk (by decide) h271, oB_of, if_pos rfl]
      exact fin k j plj paj hk ek hIV hag h28 run h271
set_option maxRecDepth 100000 in
theorem JPl_succ (hT : TkO t) (hc : LXc t q c) (hm : LXm t q m) {n : Nat} (ihS : JS t q c m 1 n 0) (ihT : JT t q c m n 0) : JPl t q c m (n + 1) := by
  have h400 := hT.1
  intro k p L nc np br cd wt op ar pl pa k1 hk hL hp hbr hIV hTp hin hfu
  rw [frX4_1]
  unfold fgX4_readPlain
  have h := J_nots (cd := cd) (wt := wt) (op := op) (ar := ar) (pa := pa) (nc := nc) hT hc hm ihS ihT k1 hL hp hbr hTp hin (by omega) (Nf := 999999 - (tM t - k)) (tM t - k) k 0 pl pa (Nat.le_refl _) hk rfl hIV (fun _ _ => ⟨rfl, rfl⟩) (fun i q1 q2 => absurd q2 (by omega)) (fun N => rfl)
  rw [show 999999 - (tM t - k) + (tM t - k) + 1 = hwF by unfold hwF; omega] at h
  exact h
set_option maxRecDepth 100000 in
theorem JT_loop (hT : TkO t) (hc : LXc t q c) (hm : LXm t q m) {n l : Nat} (hl : l < 2) (ih : JT t q c m n (l + 1)) {k p L nc np br : Nat} {cd wt op ar pl pa : Nat → Int32} (hL : L ≤ k) (hbr : br ≤ 8) (hTp : Tp pl np (strT l)) (hin : ¬ innF pl np = 32) (hfu : (8 - (l + 1)) + 4 * (8 - br) ≤ n) {Nf : Nat} : ∀ (d k1 p1 L1 x4 : Nat) (cd1 wt1 : Nat → Int32), tM t - k1 ≤ d → k1 ≤ tM t → x4 + 1 ≤ k1 → ntop (l + 1) (tK t k1) → OkC t q m 1 0 2 (strT l) nBr tvf k p L nc np br cd wt op ar pl pa k1 p1 L1 cd1 wt1 →
    JTr t q c m l k p L nc np br cd wt op ar pl pa (rX4_readTest_41 (frX4 n 0) (frX4 n 2) (fun u a x => frX4 n 1 u a x 0) (fun u a x => frX4 n 3 u a x 0) (Nf + d + 1) (cS c k1 p1 L1 cd1 wt1) 19 (nI l) (nI br) (if l = 0 then 269 else 270) (nI x4)) := by
  have h400 := hT.1
  have hs : ∀ k p L cd wt, hSh (cS c k p L cd wt) := fun _ _ _ _ _ => hc.1
  have slh : strT l ≤ strT (l + 1) := by rcases (show l = 0 ∨ l = 1 by omega) with rfl | rfl <;> decide
  have n286 : ¬ (if l = 0 then (269 : Int32) else 270) = 286 := by rcases (show l = 0 ∨ l = 1 by omega) with rfl | rfl <;> decide
  have ends : ∀ k1, ntop (l + 1) (tK t k1) → ¬ tK t k1 = (if l = 0 then (269 : Int32) else 270) → ntop l (tK t k1) := by
    intro k1 h1 h2
    rcases (show l = 0 ∨ l = 1 by omega) with rfl | rfl
    · exact ⟨fun _ => h2, fun _ => h1.2 (by decide)⟩
    · exact ⟨fun w => absurd w (by decide), fun _ => h2⟩
  intro d
  induction d with
  | zero =>
    intro k1 p1 L1 x4 cd1 wt1 hd hk1 hx hnop hok
    have e : k1 = tM t := by omega
    have kk := hok.1
    have nj : ¬ tK t k1 = (if l = 0 then (269 : Int32) else 270) := by
      rw [e, hT.2.2.2.2.2.1]
      rcases (show l = 0 ∨ l = 1 by omega) with rfl | rfl <;> decide
    show JTr t q c m l k p L nc np br cd wt op ar pl pa (bX4_readTest_41 _ _ _ _ _ (cS c k1 p1 L1 cd1 wt1) 19 (nI l) (nI br) _ (nI x4))
    unfold bX4_readTest_41
    rw [if_neg (show ¬ (400 : Int32) ≤ nI x4 from nI_ge (b := 400) (by omega) (by decide)), oR_of (sh19 (hs _ _ _ _ _)), c_skipN hT hc hk1 n286 nj, oB_of, if_pos rfl, oZ1]
    exact ⟨1, k1, p1, L1, cd1, wt1, rfl, by omega, hk1, Or.inr ⟨rfl, ends k1 hnop nj, hok⟩⟩
  | succ d ihd =>
    intro k1 p1 L1 x4 cd1 wt1 hd hk1 hx hnop hok
    have kk := hok.1
    show JTr t q c m l k p L nc np br cd wt op ar pl pa (bX4_readTest_41 _ _ _ _ (rX4_readTest_41 (frX4 n 0) (frX4 n 2) (fun u a x => frX4 n 1 u a x 0) (fun u a x => frX4 n 3 u a x 0) (Nf + d + 1)) (cS c k1 p1 L1 cd1 wt1) 19 (nI l) (nI br) _ (nI x4))
    unfold bX4_readTest_41
    rw [if_neg (show ¬ (400 : Int32) ≤ nI x4 from nI_ge (b := 400) (by omega) (by decide)), oR_of (sh19 (hs _ _ _ _ _))]
    by_cases hj : tK t k1 = (if l = 0 then (269 : Int32) else 270)
    · have kM : k1 < tM t := TkO_lt hT hk1 (by rw [hj]; exact n286)
      obtain ⟨o1, o2, o3, o4, o5, o6, f, f1, f2, f3⟩ := hok
      have hx : (tK t k1 = 269 ∧ (if l = 0 then (30 : Int32) else 29) = 30 ∧ strT l = 1) ∨ (tK t k1 = 270 ∧ (if l = 0 then (30 : Int32) else 29) = 29 ∧ strT l = 2) := by
        rcases (show l = 0 ∨ l = 1 by omega) with rfl | rfl
        · exact Or.inl ⟨hj, rfl, rfl⟩
        · exact Or.inr ⟨hj, rfl, rfl⟩
      obtain ⟨st, nc1, np1, op1, ar1, pl1, pa1, s1, s2, s3, s4, s5, s6, s7⟩ := Gd_j (hi := strT (l + 1)) hT hm hk1 (by omega) (by omega) slh hx hTp f2 f3
      have Tp1 : Tp pl1 np1 (strT (l + 1)) := Or.inr (by rw [s4, Nat.add_sub_cancel, s5]; rcases (show l = 0 ∨ l = 1 by omega) with rfl | rfl <;> decide)
      have in1 : ¬ innF pl1 np1 = 32 := by
        rw [s4, innF_s, s5, if_pos (by rcases (show l = 0 ∨ l = 1 by omega) with rfl | rfl <;> decide), innF_eq np s6]; exact hin
      obtain ⟨r, k2, p2, L2, cd2, wt2, j1, j2, j3, j4⟩ := ih (k1 + 1) p1 L1 nc1 np1 br cd1 wt1 op1 ar1 pl1 pa1 (by omega) (by omega) (by omega) o3 hbr s3 Tp1 in1 (by omega)
      rw [c_skipY hT hc hk1 n286 hj, oB_of, if_neg (by decide), oR_of (sh19 (hs _ _ _ _ _)), nI_1, j1, oB_of]
      rcases j4 with ⟨rfl, j5⟩ | ⟨rfl, j5, j6⟩
      · rw [if_pos rfl, oZ0]
        exact ⟨0, k2, p2, L2, cd2, wt2, rfl, by omega, j3, Or.inl ⟨rfl, Bd_pre s2 s1 (by omega) j2 j5⟩⟩
      · obtain ⟨i1, i2, i3, i4, i5, i6, g, g1, g2, g3⟩ := j6
        rw [if_neg (by decide), oK_of (sh19 (hs _ _ _ _ _)), rf19_7 (hs _ _ _ _ _), oNn_of, oR_of (sh23 (hs _ _ _ _ _)), c_put hc.1 (by omega), oB_of, nI_1]
        refine ihd k2 p2 (L2 + 1) (x4 + 1) _ _ (by omega) j3 (by omega) j5 ⟨by omega, by omega, i3, by omega, by omega, fun j hj => ?_, fun W => jJo (if l = 0 then (30 : Int32) else 29) (f W) (g W), fun W => ?_, fun W => ?_, s7 k2 p2 g (by omega) (by omega) j3 g3⟩
        · rw [pk_un (by omega), pk_un (by omega)]
          exact ⟨(i6 j (by omega)).1.trans (o6 j hj).1, (i6 j (by omega)).2.trans (o6 j hj).2⟩
        · have C1 := CSeg_eq (cd' := upd cd2 L2 (if l = 0 then (269 : Int32) else 270)) (wt' := upd wt2 L2 0) (f1 W) (fun i q1 q2 => by rw [pk_un (by omega), pk_un (by omega)]; exact i6 i q2)
          have C2 := CSeg_eq (cd' := upd cd2 L2 (if l = 0 then (269 : Int32) else 270)) (wt' := upd wt2 L2 0) (g1 W) (fun i q1 q2 => by rw [pk_un (by omega), pk_un (by omega)]; exact ⟨rfl, rfl⟩)
          have C3 := CSeg_bin (x := jJo (if l = 0 then (30 : Int32) else 29) (f W) (g W)) C1 C2 (Or.inr (by rw [pk_us]; rcases (show l = 0 ∨ l = 1 by omega) with rfl | rfl <;> decide)) (fun u => by
            rw [pk_us]
            rcases (show l = 0 ∨ l = 1 by omega) with rfl | rfl
            · exact c_or
            · exact c_and)
          rw [show p1 - p + (p2 - p1) = p2 - p by omega] at C3
          exact C3
        · show tv (if (if l = 0 then (30 : Int32) else 29) = 29 then jAnd (f W) (g W) else jOr (f W) (g W))
          by_cases z : (if l = 0 then (30 : Int32) else 29) = 29
          · rw [if_pos z]; exact tv_and (f2 W) (g2 W)
          · rw [if_neg z]; exact tv_or (f2 W) (g2 W)
    · rw [c_skipN hT hc hk1 n286 hj, oB_of, if_pos rfl, oZ1]
      exact ⟨1, k1, p1, L1, cd1, wt1, rfl, by omega, hk1, Or.inr ⟨rfl, ends k1 hnop hj, hok⟩⟩
set_option maxRecDepth 100000 in
theorem JT_all (hT : TkO t) (hc : LXc t q c) (hm : LXm t q m) : ∀ n, (∀ l, l ≤ 2 → JT t q c m n l) ∧ JPl t q c m n := by
  intro n
  induction n with
  | zero =>
    refine ⟨fun l hl => ?_, ?_⟩
    · intro k p L nc np br cd wt op ar pl pa _ _ _ _ _ _ _ _ h
      omega
    · intro k p L nc np br cd wt op ar pl pa _ _ _ _ _ _ _ _ h
      omega
  | succ n ih =>
    refine ⟨fun l hl => ?_, JPl_succ hT hc hm ((JS_all hT hc hm n).1 0 (by decide)) (ih.1 0 (by decide))⟩
    intro k p L nc np br cd wt op ar pl pa k1 hk hL hp hbr hIV hTp hin hfu
    have hs : hSh (cS c k p L cd wt) := hc.1
    have h400 := hT.1
    rw [frX4_0]
    unfold fgX4_readTest
    by_cases l2 : l = 2
    · subst l2
      obtain ⟨r, k', p', L', cd', wt', a1, a2, a3, a4⟩ := ih.2 k p L nc np br cd wt op ar pl pa k1 hk hL hp hbr hIV hTp hin (by omega)
      have a1' : (fun u a x => frX4 n 1 u a x 0) (cS c k p L cd wt) 19 (nI br) = some (r, cS c k' p' L' cd' wt') := a1
      rw [if_neg (show ¬ nI 2 < 2 by decide), oR_of (sh19 hs), a1', oB_of]
      have r01 : oZ r (some (r, cS c k' p' L' cd' wt')) = some (r, cS c k' p' L' cd' wt') := by
        rcases a4 with ⟨rfl, -⟩ | ⟨rfl, -⟩
        · rw [oZ0]
        · rw [oZ1]
      rw [r01]
      exact ⟨r, k', p', L', cd', wt', rfl, a2, a3, a4⟩
    · have hl2 : l < 2 := by omega
      have slh : strT l ≤ strT (l + 1) := by rcases (show l = 0 ∨ l = 1 by omega) with rfl | rfl <;> decide
      have Tp1 : Tp pl np (strT (l + 1)) := by
        rcases hTp with z | z
        · exact Or.inl z
        · exact Or.inr (Int32.lt_of_lt_of_le z slh)
      obtain ⟨r, k', p', L', cd', wt', a1, a2, a3, a4⟩ := ih.1 (l + 1) (by omega) k p L nc np br cd wt op ar pl pa k1 hk hL hp hbr hIV Tp1 hin (by omega)
      rw [if_pos (show nI l < 2 from nI_lt (b := 2) hl2 (by decide)), oR_of (sh19 hs), nI_1, a1, oB_of]
      rcases a4 with ⟨rfl, b1⟩ | ⟨rfl, b1, b2⟩
      · rw [if_pos rfl, oZ0]
        exact ⟨0, k', p', L', cd', wt', rfl, a2, a3, Or.inl ⟨rfl, b1⟩⟩
      · rw [if_neg (by decide)]
        obtain ⟨c1, c2, c3, c4, c5, c6, f, f1, f2, f3⟩ := b2
        have lp := JT_loop (cd := cd) (wt := wt) (op := op) (ar := ar) (pl := pl) (pa := pa) (nc := nc) (np := np) (p := p) hT hc hm hl2 (ih.1 (l + 1) (by omega)) hL hbr hTp hin (by omega) (Nf := 999999 - (tM t - k')) (tM t - k') k' p' L' 0 cd' wt' (Nat.le_refl _) a3 (by omega) b1 ⟨c1, c2, c3, c4, c5, c6, f, f1, f2, Gd_le f3 slh⟩
        rw [show 999999 - (tM t - k') + (tM t - k') + 1 = hwF by unfold hwF; omega] at lp
        unfold bX4_readTest_37
        rcases (show l = 0 ∨ l = 1 by omega) with rfl | rfl
        · rw [if_pos (show nI 0 = 0 from rfl)]; exact lp
        · rw [if_neg (show ¬ nI 1 = 0 by decide)]; exact lp
end
