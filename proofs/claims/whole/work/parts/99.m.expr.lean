/-! ===== a sum, a test, from its first token on, by both ===== -/
section
variable {t : Tk} {q : Bool} {c m : Mm}
set_option maxRecDepth 100000 in
/-- settled somehow: also where a fault was found -/
theorem r_setAny (hm : hSh m) {k nl no : Nat} {pl pa : Nat → Int32} {x : Int32} (hk : k ≤ 400) {N : Nat} : ∀ (np nc : Nat) (op ar : Nat → Int32), IV k nc np pl pa → ∃ nc' np' op' ar', rX9_settle_0 (N + np + 1) (rS t m k nc nl np no op ar pl pa) 45 x = some ((), rS t m k nc' nl np' no op' ar' pl pa) := by
  intro np
  induction np with
  | zero =>
    intro nc op ar h
    exact ⟨nc, 0, op, ar, r_stop (N := N + 0) hm (by decide) (Or.inl rfl)⟩
  | succ np ih =>
    intro nc op ar h
    obtain ⟨h1, h2, h3⟩ := h
    by_cases z : bndI (pl np) < x
    · have z' : Tp pl (np + 1) x := Or.inr (by rw [Nat.add_sub_cancel]; exact z)
      exact ⟨nc, np + 1, op, ar, r_stop (N := N + (np + 1)) hm (by omega) z'⟩
    · rw [show N + (np + 1) + 1 = N + np + 1 + 1 by omega]
      by_cases y : pl np = 29 ∨ pl np = 30
      · obtain ⟨a, a1, a2⟩ := h3 np (by omega)
        rw [r_popj hm (by omega) z y a2 a1]
        rw [pot_s, if_pos y] at h2
        exact ih nc op (upd ar a (nI nc)) ⟨by omega, by omega, fun j hj => h3 j (by omega)⟩
      · rw [pot_s, if_neg y] at h2
        rw [r_pop hm (by omega) z (fun w => y (Or.inl w)) (fun w => y (Or.inr w)) (by omega)]
        exact ih (nc + 1) (upd op nc (pl np)) (upd ar nc 0) ⟨by omega, by omega, fun j hj => h3 j (by omega)⟩
set_option maxRecDepth 100000 in
theorem r_76any (hm : hSh m) {k nc nl np no : Nat} {op ar pl pa : Nat → Int32} (hk : k ≤ 400) (h : IV k nc np pl pa) : ∃ nc' np' op' ar', bX9_readExpression_76 (rS t m k nc nl np no op ar pl pa) 45 = some ((), rS t m k nc' nl np' no op' ar' pl pa) := by
  have hs : hSh (rS t m k nc nl np no op ar pl pa) := hm
  have h1 := h.1
  obtain ⟨nc', np', op', ar', e⟩ := r_setAny (t := t) (nl := nl) (no := no) (x := 1) hm hk (N := 999999 - np) np nc op ar h
  refine ⟨nc', np', op', ar', ?_⟩
  unfold bX9_readExpression_76 fX9_settle
  rw [show 999999 - np + np + 1 = hwF by unfold hwF; omega] at e
  rw [oR_of (sh45 hs), e, oB_of]
/-- what comes of it -/
def EXr (t : Tk) (q : Bool) (c m : Mm) (tst : Int32) (vq : ((Nat → Int32) → Int64) → Prop) (k p L nc np no : Nat) (cd wt op ar pl pa : Nat → Int32) (X : Option (Int32 × Mm)) : Prop := ∃ r k' p' L' cd' wt', X = some (r, cS c k' p' L' cd' wt') ∧ k ≤ k' ∧ k' ≤ tM t ∧
  ((r = 0 ∧ ∃ nc' nl' np' no' op' ar' pl' pa', fX9_readExpression (rS t m k nc p np no op ar pl pa) 45 tst = some ((), rS t (mB t m k') k' nc' nl' np' no' op' ar' pl' pa'))
  ∨ (r = 1 ∧ k < k' ∧ p < p' ∧ p' ≤ 50 ∧ L < L' ∧ L' + k ≤ L + k' ∧ (∀ j, j < L → cd' j = cd j ∧ wt' j = wt j) ∧ ∃ f e op' ar' pl' pa', (∀ W, CSeg cd' wt' W L L' (p' - p) (f W)) ∧ vq f ∧ fX9_readExpression (rS t m k nc p np no op ar pl pa) 45 tst = some ((), rS t m k' e p' 0 0 op' ar' pl' pa') ∧ (∀ j, j < nc → op' j = op j ∧ ar' j = ar j) ∧ nc < e ∧ e ≤ k' ∧ ∀ W, RSeg op' ar' (lvM q) (LM q W) nc e (p' - p) (f W)))
set_option maxRecDepth 100000 in
theorem r_expr (hm : LXm t q m) {k nc nl np no : Nat} {op ar pl pa : Nat → Int32} {tst : Int32} : fX9_readExpression (rS t m k nc nl np no op ar pl pa) 45 tst = rX9_readExpression_20 hwF (rS t m k nc nl 0 0 op ar pl pa) 45 tst (if tst = 0 then 1 else 0) := by
  have hs : ∀ np no, hSh (rS t m k nc nl np no op ar pl pa) := fun _ _ => hm.1
  unfold fX9_readExpression bX9_readExpression_19
  rw [oK_of (sh45 (hs _ _)), oU_of, show (0 : Int32) = nI 0 from rfl, rS_np, oK_of (sh45 (hs _ _)), oU_of, rS_no, show nI 0 = (0 : Int32) from rfl]
  by_cases z : tst = 0
  · rw [if_pos z, if_pos z]
  · rw [if_neg z, if_neg z]
set_option maxRecDepth 100000 in
theorem E_sum (hT : TkO t) (hc : LXc t q c) (hm : LXm t q m) {k p L nc np no : Nat} {cd wt op ar pl pa : Nat → Int32} (k1 : 1 ≤ k) (hk : k ≤ tM t) (hL : L ≤ k) (hp : p ≤ 50) (hn : nc ≤ k) : EXr t q c m 0 sv k p L nc np no cd wt op ar pl pa (fX4_readSum (cS c k p L cd wt) 19 0 0) := by
  have h400 := hT.1
  have hIV : IV k nc 0 pl pa := ⟨by omega, hn, fun j hj => absurd hj (by omega)⟩
  obtain ⟨r, k', p', L', cd', wt', a1, a2, a3, a4⟩ := ((JS_all hT hc hm (tst := 0) 64).1 0 (by decide)) k p L nc 0 0 cd wt op ar pl pa k1 hk hL hp (by decide) hIV (Or.inl rfl) (by decide)
  have a1' : fX4_readSum (cS c k p L cd wt) 19 0 0 = some (r, cS c k' p' L' cd' wt') := a1
  rw [a1']
  refine ⟨r, k', p', L', cd', wt', rfl, a2, a3, ?_⟩
  rcases a4 with ⟨rfl, b1⟩ | ⟨rfl, b1, b2⟩
  · refine Or.inl ⟨rfl, ?_⟩
    obtain ⟨st, v, nc', nl', np', no', op', ar', pl', pa', y1, y2, y3⟩ := b1
    obtain ⟨nc2, np2, op2, ar2, e⟩ := r_76any (t := t) (m := mB t m k') (nl := nl') (no := no') (op := op') (ar := ar') hm.1 (show k' ≤ 400 by omega) y3
    refine ⟨nc2, nl', np2, no', op2, ar2, pl', pa', ?_⟩
    rw [r_expr hm, if_pos rfl, show hwF = 999999 - st + 1 + st by unfold hwF; omega, y2, R_B hm.1, e]
  · refine Or.inr ⟨rfl, ?_⟩
    obtain ⟨i1, i2, i3, i4, i5, i6, f, f1, f2, st, nc', d, op', ar', pl', pa', e, op'', ar'', x1, x2, x3, x4, x5, x6, x7, x8, x9⟩ := b2
    have hn2 := x3.1
    rw [Nat.zero_add] at x2 x3 x5
    have inn : innF pl' d = -1 := by
      have := innF_pend (pl := pl') (n := 0) d (fun j q1 q2 => isB_n (x5 j q1 (by omega)))
      rw [Nat.zero_add] at this
      exact this
    have hs : hSh (rS t m k' nc' p' d 0 op' ar' pl' pa') := hm.1
    refine ⟨i1, i2, i3, i4, i5, i6, f, e, op'', ar'', pl', pa', f1, f2, ?_, x7, (x9 (fun _ => 0)).1, by omega, x9⟩
    rw [r_expr hm, if_pos rfl, show hwF = 999998 - st + 1 + 1 + st by unfold hwF; omega, x2, R_3 hm (b_over hT hm a3 (nopS0_O b1) inn (by omega)), R_4 hm]
    unfold bX9_readExpression_76
    rw [oR_of (sh45 hs), r_settle hm.1 (Pops_le x6 (by decide)) (by omega) (Or.inl rfl) (Nat.zero_add d).symm, oB_of]
set_option maxRecDepth 100000 in
theorem E_test (hT : TkO t) (hc : LXc t q c) (hm : LXm t q m) {k p L nc np no : Nat} {cd wt op ar pl pa : Nat → Int32} (k1 : 1 ≤ k) (hk : k ≤ tM t) (hL : L ≤ k) (hp : p ≤ 50) (hn : nc ≤ k) : EXr t q c m 1 tvf k p L nc np no cd wt op ar pl pa (fX4_readTest (cS c k p L cd wt) 19 0 0) := by
  have h400 := hT.1
  have hIV : IV k nc 0 pl pa := ⟨by omega, hn, fun j hj => absurd hj (by omega)⟩
  obtain ⟨r, k', p', L', cd', wt', a1, a2, a3, a4⟩ := ((JT_all hT hc hm 64).1 0 (by decide)) k p L nc 0 0 cd wt op ar pl pa k1 hk hL hp (by decide) hIV (Or.inl rfl) (show ¬ (-1 : Int32) = 32 by decide) (by decide)
  have a1' : fX4_readTest (cS c k p L cd wt) 19 0 0 = some (r, cS c k' p' L' cd' wt') := a1
  rw [a1']
  refine ⟨r, k', p', L', cd', wt', rfl, a2, a3, ?_⟩
  rcases a4 with ⟨rfl, b1⟩ | ⟨rfl, b1, b2⟩
  · refine Or.inl ⟨rfl, ?_⟩
    obtain ⟨st, v, nc', nl', np', no', op', ar', pl', pa', y1, y2, y3⟩ := b1
    obtain ⟨nc2, np2, op2, ar2, e⟩ := r_76any (t := t) (m := mB t m k') (nl := nl') (no := no') (op := op') (ar := ar') hm.1 (show k' ≤ 400 by omega) y3
    refine ⟨nc2, nl', np2, no', op2, ar2, pl', pa', ?_⟩
    rw [r_expr hm, if_neg (by decide), show hwF = 999999 - st + 1 + st by unfold hwF; omega, y2, R_B hm.1, e]
  · refine Or.inr ⟨rfl, ?_⟩
    obtain ⟨i1, i2, i3, i4, i5, i6, f, f1, f2, st, nc', d, op', ar', pl', pa', e, op'', ar'', x1, x2, x3, x4, x5, x6, x7, x8, x9⟩ := b2
    have hn2 := x3.1
    rw [Nat.zero_add] at x2 x3 x5
    have inn : innF pl' d = -1 := by
      have := innF_pend (pl := pl') (n := 0) d (fun j q1 q2 => x5 j q1 (by omega))
      rw [Nat.zero_add] at this
      exact this
    have hs : hSh (rS t m k' nc' p' d 0 op' ar' pl' pa') := hm.1
    refine ⟨i1, i2, i3, i4, i5, i6, f, e, op'', ar'', pl', pa', f1, f2, ?_, x7, (x9 (fun _ => 0)).1, by omega, x9⟩
    rw [r_expr hm, if_neg (by decide), show hwF = 999998 - st + 1 + 1 + st by unfold hwF; omega, x2, R_2 hm (t_over hT hm a3 (b1.2 (by decide)) (b1.1 (by decide)) inn (by omega)), R_4 hm]
    unfold bX9_readExpression_76
    rw [oR_of (sh45 hs), r_settle hm.1 (Pops_le x6 (by decide)) (by omega) (Or.inl rfl) (Nat.zero_add d).symm, oB_of]
end
