/-! ===== tests by both ===== -/
def strT (l : Nat) : Int32 := if l = 0 then 1 else if l = 1 then 2 else 3
def ntop (l : Nat) (x : Int32) : Prop := (l ≤ 0 → ¬ x = 269) ∧ (l ≤ 1 → ¬ x = 270)
set_option maxRecDepth 100000 in
theorem ntop2 (x : Int32) : ntop 2 x := ⟨fun h => absurd h (by decide), fun h => absurd h (by decide)⟩
def JTr (t : Tk) (q : Bool) (c m : Mm) (l k p L nc np br : Nat) (cd wt op ar pl pa : Nat → Int32) (X : Option (Int32 × Mm)) : Prop := ∃ r k' p' L' cd' wt', X = some (r, cS c k' p' L' cd' wt') ∧ k ≤ k' ∧ k' ≤ tM t ∧ ((r = 0 ∧ Bd t m 1 0 k p nc np br op ar pl pa k') ∨ (r = 1 ∧ ntop l (tK t k') ∧ OkC t q m 1 0 2 (strT l) nBr tvf k p L nc np br cd wt op ar pl pa k' p' L' cd' wt'))
def JT (t : Tk) (q : Bool) (c m : Mm) (n l : Nat) : Prop := ∀ k p L nc np br cd wt op ar pl pa, 1 ≤ k → k ≤ tM t → L ≤ k → p ≤ 50 → br ≤ 8 → IV k nc np pl pa → Tp pl np (strT l) → ¬ innF pl np = 32 → (8 - l) + 4 * (8 - br) ≤ n → JTr t q c m l k p L nc np br cd wt op ar pl pa (frX4 n 0 (cS c k p L cd wt) 19 (nI l) (nI br))
def JPl (t : Tk) (q : Bool) (c m : Mm) (n : Nat) : Prop := ∀ k p L nc np br cd wt op ar pl pa, 1 ≤ k → k ≤ tM t → L ≤ k → p ≤ 50 → br ≤ 8 → IV k nc np pl pa → Tp pl np 3 → ¬ innF pl np = 32 → 5 + 4 * (8 - br) ≤ n → JTr t q c m 2 k p L nc np br cd wt op ar pl pa (frX4 n 1 (cS c k p L cd wt) 19 (nI br) 0)
set_option maxRecDepth 100000 in
theorem oB_eta {α : Type} (x : Option (α × Mm)) : oB x (fun v u => some (v, u)) = x := by cases x <;> rfl
section
variable {t : Tk} {q : Bool} {c m : Mm}
set_option maxRecDepth 100000 in
theorem R_01 (hT : TkO t) (hm : LXm t q m) {k nc p np br : Nat} {op ar pl pa : Nat → Int32} (hk : k ≤ tM t) (h1 : ¬ tK t k = 271) (h2 : ¬ tK t k = 40) {N : Nat} : rX9_readExpression_20 (N + 1) (rS t m k nc p np br op ar pl pa) 45 1 0 = rX9_readExpression_20 (N + 1) (rS t m k nc p np br op ar pl pa) 45 1 1 := by
  have hs : hSh (rS t m k nc p np br op ar pl pa) := hm.1
  have e : fX9_readPlain (rS t m k nc p np br op ar pl pa) 45 = fX9_readPart (rS t m k nc p np br op ar pl pa) 45 := by
    unfold fX9_readPlain
    rw [oR_of (sh45 hs), r_wd hT hm.1 hk (i := 15) (w := 14836) (by decide) rfl, oB_of, if_neg (show ¬ tK t k = nI (256 + 15) from h1), if_pos rfl, oR_of (sh45 hs), r_sgN hT hm.1 hk (by decide) h2, oB_of, if_pos rfl, oR_of (sh45 hs), oB_eta]
  show bX9_readExpression_20 (rX9_readExpression_20 N) _ 45 1 0 = bX9_readExpression_20 (rX9_readExpression_20 N) _ 45 1 1
  unfold bX9_readExpression_20
  rw [oK_of (sh45 hs), oI_of, rS_19 hm.2.2.1, if_pos rfl, if_neg (by decide), if_pos rfl, oR_of (sh45 hs), e, oK_of (sh45 hs), oI_of, if_pos rfl, if_neg (by decide), if_neg (by decide), if_pos rfl, oR_of (sh45 hs)]
/-- what stands behind the nots: the class is not yet at its last step -/
def Core (t : Tk) (q : Bool) (c m : Mm) (n k p L nc np br j : Nat) (cd wt op ar pl pa : Nat → Int32) : Prop :=
  (∃ k' p' L' cd' wt', bX4_readPlain_30 (frX4 n 0) (frX4 n 2) (fun u a x => frX4 n 1 u a x 0) (fun u a x => frX4 n 3 u a x 0) (cS c k p L cd wt) 19 (nI br) (nI j) = some (0, cS c k' p' L' cd' wt') ∧ k ≤ k' ∧ k' ≤ tM t ∧ Bd t m 1 0 k p nc np br op ar pl pa k')
  ∨ (∃ k' p' L' cd' wt', bX4_readPlain_30 (frX4 n 0) (frX4 n 2) (fun u a x => frX4 n 1 u a x 0) (fun u a x => frX4 n 3 u a x 0) (cS c k p L cd wt) 19 (nI br) (nI j) = bX4_readPlain_149 (frX4 n 0) (frX4 n 2) (fun u a x => frX4 n 1 u a x 0) (fun u a x => frX4 n 3 u a x 0) (cS c k' p' L' cd' wt') 19 (nI j) ∧ k' ≤ tM t ∧ OkC t q m 1 0 2 4 nBr tvf k p L nc np br cd wt op ar pl pa k' p' L' cd' wt')
set_option maxRecDepth 100000 in
theorem J_core (hT : TkO t) (hc : LXc t q c) (hm : LXm t q m) {n : Nat} (ihS : JS t q c m 1 n 0) (ihT : JT t q c m n 0) {k p L nc np br j : Nat} {cd wt op ar pl pa : Nat → Int32} (k1 : 1 ≤ k) (hk : k ≤ tM t) (hL : L ≤ k) (hp : p ≤ 50) (hbr : br ≤ 8) (hIV : IV k nc np pl pa) (hTp : Tp pl np 4) (hin : ¬ innF pl np = 32) (hfu : 4 + 4 * (8 - br) ≤ n) (h271 : ¬ tK t k = 271) : Core t q c m n k p L nc np br j cd wt op ar pl pa := by
  have h400 := hT.1
  have hs : ∀ k p L cd wt, hSh (cS c k p L cd wt) := fun _ _ _ _ _ => hc.1
  have i1 := hIV.1
  unfold Core bX4_readPlain_30
  rw [oK_of (sh19 (hs _ _ _ _ _)), rf19_0 (hs _ _ _ _ _), oNn_of, oK_of (sh19 (hs _ _ _ _ _)), oI_of, cS_4, oA_k (sh20 (hs _ _ _ _ _)) (by omega) (by decide), oI_of, clm (by omega), cS_K hc hk]
  by_cases h40 : tK t k = 40
  · have kM : k < tM t := TkO_lt hT hk (by rw [h40]; decide)
    rw [if_pos h40]
    by_cases b8 : br < 8
    · have step : ∀ N, rX9_readExpression_20 (N + 1) (rS t m k nc p np br op ar pl pa) 45 1 0 = rX9_readExpression_20 N (rS t m (k + 1) nc p (np + 1) (br + 1) op ar (upd pl np 31) (upd pa np 0)) 45 1 0 := by
        intro N
        refine R_0 hm ?_
        rw [l_rd hT hm hk h40 (r_open hm kM (by omega) b8), oB_of]
      have inn1 : innF (upd pl np 31) (np + 1) = 31 := by rw [innF_s, pk_us, if_neg (by decide)]
      obtain ⟨r, k2, p2, L2, cd2, wt2, j1, j2, j3, j4⟩ := ihT (k + 1) p L nc (np + 1) (br + 1) cd wt op ar (upd pl np 31) (upd pa np 0) (by omega) (by omega) (by omega) hp (by omega) (IV_push (y := 0) hIV (by decide)) (Tp_up (by decide)) (by rw [inn1]; decide) (by omega)
      have j1' : frX4 n 0 (cS c (k + 1) p L cd wt) 19 0 (nI (br + 1)) = some (r, cS c k2 p2 L2 cd2 wt2) := j1
      rw [if_neg (show ¬ (8 : Int32) ≤ nI br from nI_ge (b := 8) b8 (by decide)), oR_of (sh19 (hs _ _ _ _ _)), c_skipY hT hc hk (by decide) h40, oB_of, if_neg (by decide), oR_of (sh19 (hs _ _ _ _ _)), nI_1 br, j1', oB_of]
      rcases j4 with ⟨rfl, j5⟩ | ⟨rfl, j5, j6⟩
      · rw [if_pos rfl, oZ0]
        exact Or.inl ⟨k2, p2, L2, cd2, wt2, rfl, by omega, j3, Bd_pre step (by omega) (by omega) j2 j5⟩
      · obtain ⟨i1', i2, i3, i4, i5, i6, g, g1, g2, st2, nc2, d2, op2, ar2, pl2, pa2, e2, op3, ar3, x1, x2, x3, x4, x5, x6, x7, x8, x9⟩ := j6
        have hn2 := x3.1
        have pl2np : pl2 np = 31 := by rw [(x4 np (by omega)).1, pk_us]
        have inn : ¬ innF pl2 (np + 1 + d2) = -1 := by
          rw [innF_pend d2 (fun j a1 a2 => x5 j a1 a2), innF_s, pl2np, if_neg (by decide)]; decide
        have e1 : pot (upd pl np 31) (np + 1) = pot pl np + 1 := by rw [pot_s, pot_upd, pk_us, if_neg (by decide)]
        rw [e1] at x8
        have run : ∀ N, rX9_readExpression_20 (N + (st2 + 1)) (rS t m k nc p np br op ar pl pa) 45 1 0 = rX9_readExpression_20 N (rS t m k2 nc2 p2 (np + 1 + d2) (br + 1) op2 ar2 pl2 pa2) 45 1 2 := by
          intro N
          rw [show N + (st2 + 1) = N + st2 + 1 by omega, step, x2]
        rw [if_neg (by decide), oR_of (sh19 (hs _ _ _ _ _))]
        by_cases h41 : tK t k2 = 41
        · have kM2 : k2 < tM t := TkO_lt hT j3 (by rw [h41]; decide)
          rw [c_skipY hT hc j3 (by decide) h41, oB_of, if_neg (by decide)]
          refine Or.inr ⟨k2 + 1, p2, L2, cd2, wt2, rfl, by omega, by omega, by omega, i3, by omega, by omega, i6, g, g1, g2, st2 + 1 + 1, e2, 0, op3, ar3, pl2, pa2, e2, op3, ar3, by omega, fun N => ?_, ⟨by omega, ?_, fun j hj => x3.2.2 j (by omega)⟩, fun j hj => ?_, fun j a1 a2 => absurd a2 (by omega), Pops_0, x7, by omega, x9⟩
          · rw [show N + (st2 + 1 + 1) = N + 1 + (st2 + 1) by omega, run, R_2 hm (t_close hT hm j3 h41 inn x6 (by omega) (Or.inr (by rw [Nat.add_sub_cancel, pl2np]; decide)) rfl rfl)]
            rfl
          · show e2 + pot pl2 np ≤ k2 + 1
            rw [pot_eq np (fun j hj => by rw [(x4 j (by omega)).1, pk_un (by omega)])]
            omega
          · have y := x4 j (by omega)
            rw [pk_un (by omega), pk_un (by omega)] at y
            exact y
        · rw [c_skipN hT hc j3 (by decide) h41, oB_of, if_pos rfl, oZ0]
          exact Or.inl ⟨k2, p2, L2, cd2, wt2, rfl, by omega, j3, Bd_pre run (by omega) (by omega) (Nat.le_refl k2) (Bd_1 (fun N => R_2 hm (t_closeB hT hm j3 (j5.2 (by decide)) (j5.1 (by decide)) h41 inn (by omega))) x3)⟩
    · have hb : fX9_readPlain (rS t m k nc p np br op ar pl pa) 45 = some (0, rS t (mB t m k) k nc p np br op ar pl pa) := by
        rw [l_rd hT hm hk h40 (r_openB hm (by omega) (by omega)), oB_of]
      rw [if_pos (show (8 : Int32) ≤ nI br from nI_le (a := 8) (by omega) (by omega)), oZ0]
      exact Or.inl ⟨k, p, L, cd, wt, rfl, Nat.le_refl k, hk, Bd_1 (fun N => R_0 hm hb) hIV⟩
  · rw [if_neg h40, oR_of (sh19 (hs _ _ _ _ _))]
    have Tp5 : Tp pl np (strS 0) := by
      rcases hTp with z | z
      · exact Or.inl z
      · exact Or.inr (Int32.lt_of_lt_of_le z (by decide))
    have c0 : np = 0 ∨ ¬ (20 ≤ pl (np - 1) ∧ pl (np - 1) ≤ 24) := by
      rcases hTp with z | z
      · exact Or.inl z
      · exact Or.inr (fun w => bnd_lt4 z ⟨w.1, Int32.le_trans w.2 (by decide)⟩)
    have c1 : (if np = 0 then (0 : Int32) else if 25 ≤ pl (np - 1) ∧ pl (np - 1) ≤ 27 then 1 else 0) = 0 := by
      rcases hTp with z | z
      · rw [if_pos z]
      · by_cases y : np = 0
        · rw [if_pos y]
        · rw [if_neg y, if_neg (fun w => bnd_lt4 z ⟨Int32.le_trans (by decide) w.1, w.2⟩)]
    obtain ⟨r, k2, p2, L2, cd2, wt2, j1, j2, j3, j4⟩ := ihS k p L nc np br cd wt op ar pl pa k1 hk hL hp hbr hIV Tp5 (by omega)
    have j1' : frX4 n 2 (cS c k p L cd wt) 19 0 (nI br) = some (r, cS c k2 p2 L2 cd2 wt2) := j1
    have sw : ∀ st, 1 ≤ st → ∀ N, rX9_readExpression_20 (N + st) (rS t m k nc p np br op ar pl pa) 45 1 0 = rX9_readExpression_20 (N + st) (rS t m k nc p np br op ar pl pa) 45 1 1 := by
      intro st hst N
      obtain ⟨s, rfl⟩ : ∃ s, st = s + 1 := ⟨st - 1, by omega⟩
      exact R_01 (N := N + s) hT hm hk h271 h40
    rw [j1', oB_of]
    rcases j4 with ⟨rfl, j5⟩ | ⟨rfl, j5, j6⟩
    · rw [if_pos rfl, oZ0]
      refine Or.inl ⟨k2, p2, L2, cd2, wt2, rfl, j2, j3, ?_⟩
      obtain ⟨st, v, nc', nl', np', no', op', ar', pl', pa', y1, y2, y3⟩ := j5
      exact ⟨st, v, nc', nl', np', no', op', ar', pl', pa', y1, fun N => (sw st y1.1 N).trans (y2 N), y3⟩
    · obtain ⟨i1', i2, i3, i4, i5, i6, f, f1, f2, st, nc', d, op', ar', pl', pa', e, op'', ar'', x1, x2, x3, x4, x5, x6, x7, x8, x9⟩ := j6
      have hn := x3.1
      have nO := nopS0_O j5
      have inn : ¬ innF pl' (np + d) = 32 := by
        rw [innF_pend d (fun j a1 a2 => isB_n (x5 j a1 a2)), innF_eq np (fun j hj => (x4 j hj).1)]; exact hin
      have c0' : np = 0 ∨ ¬ (20 ≤ pl' (np - 1) ∧ pl' (np - 1) ≤ 24) := by
        by_cases z : np = 0
        · exact Or.inl z
        · rw [(x4 (np - 1) (by omega)).1]; exact c0
      have c1' : (if np = 0 then (0 : Int32) else if 25 ≤ pl' (np - 1) ∧ pl' (np - 1) ≤ 27 then 1 else 0) = 0 := by
        by_cases z : np = 0
        · rw [if_pos z]
        · rw [(x4 (np - 1) (by omega)).1]; exact c1
      have cmp0 : fX9_isCompared (rS t m k2 nc' p2 (np + d) br op' ar' pl' pa') 45 = some (0, rS t m k2 nc' p2 (np + d) br op' ar' pl' pa') := by
        rw [r_comp hm.1 c0' rfl (by omega) (fun j a1 a2 => x5 j a1 a2), c1']
      have run : ∀ N, rX9_readExpression_20 (N + st) (rS t m k nc p np br op ar pl pa) 45 1 0 = rX9_readExpression_20 N (rS t m k2 nc' p2 (np + d) br op' ar' pl' pa') 45 1 3 := fun N => (sw st x1.1 N).trans (x2 N)
      rw [if_neg (by decide), oK_of (sh19 (hs _ _ _ _ _)), rf19_0 (hs _ _ _ _ _), oNn_of, oK_of (sh19 (hs _ _ _ _ _)), oI_of, cS_4, oA_k (sh20 (hs _ _ _ _ _)) (by omega) (by decide), oI_of, clm (by omega), cS_K hc j3, oR_of (sh19 (hs _ _ _ _ _))]
      by_cases hC : isC (tK t k2)
      · have kM2 : k2 < tM t := TkO_lt hT j3 (by rcases hC with w | w | w <;> rw [w] <;> decide)
        have cl : ∀ {X : Option (Int32 × Mm)}, bX4_readPlain_129 (frX4 n 0) (frX4 n 2) (fun u a x => frX4 n 1 u a x 0) (fun u a x => frX4 n 3 u a x 0) (cS c (k2 + 1) p2 L2 cd2 wt2) 19 (nI br) (nI j) (tK t k2) = X → oB (fX4_skip (cS c k2 p2 L2 cd2 wt2) 19 60) (fun v9 u10 => (if (v9 : Int32) = 0 then oR u10 19 4 (oB (fX4_skip u10 19 62) (fun v17 u18 => (if (v17 : Int32) = 0 then oR u18 19 4 (oB (fX4_skip u18 19 61) (fun v19 u20 => (if (v19 : Int32) = 0 then oZ 0 (some (0, u20)) else bX4_readPlain_129 (frX4 n 0) (frX4 n 2) (fun u a x => frX4 n 1 u a x 0) (fun u a x => frX4 n 3 u a x 0) u20 19 (nI br) (nI j) (tK t k2)))) else bX4_readPlain_129 (frX4 n 0) (frX4 n 2) (fun u a x => frX4 n 1 u a x 0) (fun u a x => frX4 n 3 u a x 0) u18 19 (nI br) (nI j) (tK t k2)))) else bX4_readPlain_129 (frX4 n 0) (frX4 n 2) (fun u a x => frX4 n 1 u a x 0) (fun u a x => frX4 n 3 u a x 0) u10 19 (nI br) (nI j) (tK t k2))) = X := by
          intro X hX
          rcases hC with w | w | w
          · rw [c_skipY hT hc j3 (by decide) w, oB_of, if_neg (by decide), hX]
          · rw [c_skipN hT hc j3 (by decide) (by rw [w]; decide), oB_of, if_pos rfl, oR_of (sh19 (hs _ _ _ _ _)), c_skipY hT hc j3 (by decide) w, oB_of, if_neg (by decide), hX]
          · rw [c_skipN hT hc j3 (by decide) (by rw [w]; decide), oB_of, if_pos rfl, oR_of (sh19 (hs _ _ _ _ _)), c_skipN hT hc j3 (by decide) (by rw [w]; decide), oB_of, if_pos rfl, oR_of (sh19 (hs _ _ _ _ _)), c_skipY hT hc j3 (by decide) w, oB_of, if_neg (by decide), hX]
        rw [cl rfl]
        have ro : bndI (rop (tK t k2)) = 4 := by rcases hC with w | w | w <;> rw [w] <;> decide
        have r25 : 25 ≤ rop (tK t k2) ∧ rop (tK t k2) ≤ 27 := by rcases hC with w | w | w <;> rw [w] <;> decide
        have n29 : ¬ rop (tK t k2) = 29 := by rcases hC with w | w | w <;> rw [w] <;> decide
        have n30 : ¬ rop (tK t k2) = 30 := by rcases hC with w | w | w <;> rw [w] <;> decide
        have e0 : pot pl' np = pot pl np := pot_eq np (fun j hj => (x4 j hj).1)
        have ne : nc < e := (x9 (fun _ => 0)).1
        have step2 : ∀ N, rX9_readExpression_20 (N + (st + 1)) (rS t m k nc p np br op ar pl pa) 45 1 0 = rX9_readExpression_20 N (rS t m (k2 + 1) e p2 (np + 1) br op'' ar'' (upd pl' np (rop (tK t k2))) (upd pa' np 0)) 45 1 1 := by
          intro N
          rw [show N + (st + 1) = N + 1 + st by omega, run]
          refine R_3 hm ?_
          rw [b_163 hT hm j3 nO inn (by omega), b_cmp hT hm j3 cmp0 hC x6 (by omega) (Tp_eq Tp5 (fun j hj => (x4 j hj).1)) rfl (by omega)]
        obtain ⟨r2, k3, p3, L3, cd3, wt3, y1, y2, y3, y4⟩ := ihS (k2 + 1) p2 L2 e (np + 1) br cd2 wt2 op'' ar'' (upd pl' np (rop (tK t k2))) (upd pa' np 0) (by omega) (by omega) (by omega) i3 hbr (IV_push (y := 0) ⟨by omega, by rw [e0]; omega, fun j hj => x3.2.2 j (by omega)⟩ (by decide)) (Tp_up (by rw [ro]; decide)) (by omega)
        have y1' : frX4 n 2 (cS c (k2 + 1) p2 L2 cd2 wt2) 19 0 (nI br) = some (r2, cS c k3 p3 L3 cd3 wt3) := y1
        unfold bX4_readPlain_129
        rw [oR_of (sh19 (hs _ _ _ _ _)), y1', oB_of]
        rcases y4 with ⟨rfl, y5⟩ | ⟨rfl, y5, y6⟩
        · rw [if_pos rfl, oZ0]
          exact Or.inl ⟨k3, p3, L3, cd3, wt3, rfl, by omega, y3, Bd_pre step2 (by omega) (by omega) y2 y5⟩
        · obtain ⟨a1, a2, a3, a4, a5, a6, g, g1, g2, st2, nc2, d2, op2, ar2, pl2, pa2, e2, op3, ar3, b1, b2, b3, b4, b5, b6, b7, b8, b9⟩ := y6
          have hn2 := b3.1
          have plnp : pl2 np = rop (tK t k2) := by rw [(b4 np (by omega)).1, pk_us]
          have e1 : pot (upd pl' np (rop (tK t k2))) (np + 1) = pot pl np + 1 := by rw [pot_s, pot_upd, pk_us, if_neg (fun w => w.elim n29 n30), e0]
          rw [e1] at b8
          have ee : e < e2 := (b9 (fun _ => 0)).1
          have inn2 : ¬ innF pl2 (np + 1 + d2) = 32 := by
            rw [innF_pend d2 (fun j q1 q2 => isB_n (b5 j q1 q2)), innF_s, plnp, if_pos (Int32.lt_of_le_of_lt r25.2 (by decide)), innF_eq np (fun j hj => (b4 j (by omega)).1.trans ((pk_un (by omega)).trans (x4 j hj).1))]
            exact hin
          have cmp1 : fX9_isCompared (rS t m k3 nc2 p3 (np + 1 + d2) br op2 ar2 pl2 pa2) 45 = some (1, rS t m k3 nc2 p3 (np + 1 + d2) br op2 ar2 pl2 pa2) := by
            rw [r_comp hm.1 (i := np + 1) (d := d2) (Or.inr (by rw [Nat.add_sub_cancel, plnp]; exact fun w => absurd (Int32.le_trans r25.1 w.2) (by decide))) rfl (by omega) (fun j q1 q2 => b5 j q1 q2), if_neg (by omega), Nat.add_sub_cancel, plnp, if_pos r25]
          have run2 : ∀ N, rX9_readExpression_20 (N + (st + 1 + st2 + 1)) (rS t m k nc p np br op ar pl pa) 45 1 0 = rX9_readExpression_20 N (rS t m k3 nc2 p3 (np + (1 + d2)) br op2 ar2 pl2 pa2) 45 1 2 := by
            intro N
            rw [show N + (st + 1 + st2 + 1) = N + 1 + st2 + (st + 1) by omega, step2, b2, show np + (1 + d2) = np + 1 + d2 by omega]
            refine R_3 hm ?_
            rw [b_163 hT hm y3 (nopS0_O y5) inn2 (by omega), b_told hm cmp1]
          have jJ : isJ (tK t k2) := by rcases hC with w | w | w <;> rw [w] <;> decide
          rw [if_neg (by decide), oK_of (sh19 (hs _ _ _ _ _)), rf19_7 (hs _ _ _ _ _), oNn_of, oR_of (sh23 (hs _ _ _ _ _)), c_put hc.1 (by omega), oB_of]
          refine Or.inr ⟨k3, p3, L3 + 1, _, _, rfl, y3, by omega, by omega, a3, by omega, by omega, fun j hj => ?_, fun W => jn (tK t k2) (f W) (g W), fun W => ?_, fun W => tv_cmp hC, st + 1 + st2 + 1, nc2, 1 + d2, op2, ar2, pl2, pa2, e2 + 1, upd op3 e2 (rop (tK t k2)), upd ar3 e2 0, by omega, run2, ?_, fun j hj => ?_, fun j q1 q2 => ?_, ?_, fun j hj => ?_, by omega, fun W => ?_⟩
          · rw [pk_un (by omega), pk_un (by omega)]
            exact ⟨(a6 j (by omega)).1.trans (i6 j hj).1, (a6 j (by omega)).2.trans (i6 j hj).2⟩
          · have C1 := CSeg_eq (cd' := upd cd3 L3 (tK t k2)) (wt' := upd wt3 L3 0) (f1 W) (fun i q1 q2 => by rw [pk_un (by omega), pk_un (by omega)]; exact a6 i q2)
            have C2 := CSeg_eq (cd' := upd cd3 L3 (tK t k2)) (wt' := upd wt3 L3 0) (g1 W) (fun i q1 q2 => by rw [pk_un (by omega), pk_un (by omega)]; exact ⟨rfl, rfl⟩)
            have C3 := CSeg_bin (x := jn (tK t k2) (f W) (g W)) C1 C2 (Or.inl (by rw [pk_us]; exact jJ)) (fun u => by rw [pk_us]; exact c_joined jJ)
            rw [show p2 - p + (p3 - p2) = p3 - p by omega] at C3
            exact C3
          · rw [show np + (1 + d2) = np + 1 + d2 by omega]; exact b3
          · have z := b4 j (by omega)
            rw [pk_un (by omega), pk_un (by omega)] at z
            exact ⟨z.1.trans (x4 j hj).1, z.2.trans (x4 j hj).2⟩
          · by_cases z : j = np
            · rw [z, plnp]; exact Int32.lt_of_le_of_lt r25.2 (by decide)
            · exact isB_n (b5 j (by omega) (by omega))
          · have P1 := Pops_1 (t := t) (str := 4) (np := np) (nc := e2) (op := op3) (ar := ar3) (pl := pl2) (pa := pa2) (by omega) (by omega) (by rw [plnp, ro]; decide) (by rw [plnp]; exact n29) (by rw [plnp]; exact n30)
            rw [plnp] at P1
            exact Pops_trans (Pops_le b6 (by decide)) P1
          · rw [pk_un (by omega), pk_un (by omega)]
            exact ⟨(b7 j (by omega)).1.trans (x7 j hj).1, (b7 j (by omega)).2.trans (x7 j hj).2⟩
          · have R1 := RSeg_eq (op' := upd op3 e2 (rop (tK t k2))) (ar' := upd ar3 e2 0) (x9 W) (fun i q1 q2 => by rw [pk_un (by omega), pk_un (by omega)]; exact b7 i q2)
            have R2 := RSeg_eq (op' := upd op3 e2 (rop (tK t k2))) (ar' := upd ar3 e2 0) (b9 W) (fun i q1 q2 => by rw [pk_un (by omega), pk_un (by omega)]; exact ⟨rfl, rfl⟩)
            have R3 := RSeg_bin R1 R2 jJ (by rw [pk_us])
            rw [show p2 - p + (p3 - p2) = p3 - p by omega] at R3
            exact R3
      · rw [c_skipN hT hc j3 (by decide) (fun w => hC (Or.inl w)), oB_of, if_pos rfl, oR_of (sh19 (hs _ _ _ _ _)), c_skipN hT hc j3 (by decide) (fun w => hC (Or.inr (Or.inl w))), oB_of, if_pos rfl, oR_of (sh19 (hs _ _ _ _ _)), c_skipN hT hc j3 (by decide) (fun w => hC (Or.inr (Or.inr w))), oB_of, if_pos rfl, oZ0]
        have hb : fX9_behindSum (rS t m k2 nc' p2 (np + d) br op' ar' pl' pa') 45 1 = some (1, rS t (mB t m k2) k2 nc' p2 (np + d) br op' ar' pl' pa') := by
          rw [b_163 hT hm j3 nO inn (by omega), b_cmpB hT hm j3 cmp0 hC]
        exact Or.inl ⟨k2, p2, L2, cd2, wt2, rfl, j2, j3, Bd_pre run x1.2 j2 (Nat.le_refl k2) (Bd_1 (fun N => R_3 hm hb) x3)⟩
end
