/-! ===== sums by both ===== -/
def opL (l : Nat) (x : Int32) : Prop := if l = 0 then (x = 43 ∨ x = 45) else (x = 42 ∨ x = 47 ∨ x = 37)
def strS (l : Nat) : Int32 := if l = 0 then 5 else if l = 1 then 6 else 7
def nopS (l : Nat) (x : Int32) : Prop := (l ≤ 0 → ¬ x = 43 ∧ ¬ x = 45) ∧ (l ≤ 1 → ¬ x = 42 ∧ ¬ x = 47 ∧ ¬ x = 37)
section
variable {t : Tk} {q : Bool} {c m : Mm} {k p L : Nat} {cd wt : Nat → Int32} {rT rS_ : Mm → Nat → Int32 → Int32 → Option (Int32 × Mm)} {rP rA : Mm → Nat → Int32 → Option (Int32 × Mm)}
set_option maxRecDepth 100000 in
theorem c_106 (hc : LXc t q c) {K : Mm → Nat → Int32 → Int32 → Int32 → Option (Int32 × Mm)} {x1 x2 x4 : Int32} {x3 : Nat} : bX4_readSum_106 rT rS_ rP rA K (cS c k p L cd wt) 19 x1 x2 (nI x3) x4 1 = oB (rS_ (cS c k p L cd wt) 19 (x1 + 1) x2) (fun v8 u9 => (if (v8 : Int32) = 0 then oZ 0 (some (0, u9)) else oK u9 19 4 8 (oNn (mR u9 19 7) (fun e10 => oR u9 e10 6 (oB (fX6_put u9 e10 x4 0) (fun _ u11 => K u11 19 x1 x2 (nI (x3 + 1)))))))) := by
  have hs : hSh (cS c k p L cd wt) := hc.1
  unfold bX4_readSum_106
  rw [if_neg (by decide), oR_of (sh19 hs), nI_1]
set_option maxRecDepth 100000 in
theorem c_loopY (hT : TkO t) (hc : LXc t q c) (hk : k ≤ tM t) {x3 : Nat} (h3 : x3 < 400) {l : Nat} (hl : l < 2) {x2 : Int32} {N : Nat} (ho : opL l (tK t k)) : rX4_readSum_26 rT rS_ rP rA (N + 1) (cS c k p L cd wt) 19 (nI l) x2 (nI x3) = oB (rS_ (cS c (k + 1) p L cd wt) 19 (nI (l + 1)) x2) (fun v8 u9 => (if (v8 : Int32) = 0 then oZ 0 (some (0, u9)) else oK u9 19 4 8 (oNn (mR u9 19 7) (fun e10 => oR u9 e10 6 (oB (fX6_put u9 e10 (tK t k) 0) (fun _ u11 => rX4_readSum_26 rT rS_ rP rA N u11 19 (nI l) x2 (nI (x3 + 1)))))))) := by
  have hs : hSh (cS c k p L cd wt) := hc.1
  have h4 := hT.1
  show bX4_readSum_26 rT rS_ rP rA (rX4_readSum_26 rT rS_ rP rA N) _ 19 (nI l) x2 (nI x3) = _
  unfold bX4_readSum_26 bX4_readSum_66 bX4_readSum_101
  rw [if_neg (show ¬ (400 : Int32) ≤ nI x3 from nI_ge (b := 400) h3 (by decide)), oK_of (sh19 hs), rf19_0 hs, oNn_of, oK_of (sh19 hs), oI_of, cS_4, oA_k (sh20 hs) (by omega) (by decide), oI_of, clm (by omega), cS_K hc hk]
  rcases (show l = 0 ∨ l = 1 by omega) with rfl | rfl
  · rw [if_pos (show nI 0 = 0 from rfl), oR_of (sh19 hs)]
    by_cases z : tK t k = 43
    · rw [c_skipY hT hc hk (by decide) z, oB_of, if_neg (by decide), c_106 hc, nI_1]
    · have z2 : tK t k = 45 := Or.resolve_left (show tK t k = 43 ∨ tK t k = 45 from ho) z
      rw [c_skipN hT hc hk (by decide) z, oB_of, if_pos rfl, oR_of (sh19 hs), c_skipY hT hc hk (by decide) z2, oB_of, if_neg (by decide), c_106 hc, nI_1]
  · rw [if_neg (show ¬ nI 1 = 0 by decide), oR_of (sh19 hs)]
    have ho' : tK t k = 42 ∨ tK t k = 47 ∨ tK t k = 37 := ho
    by_cases z : tK t k = 42
    · rw [c_skipY hT hc hk (by decide) z, oB_of, if_neg (by decide), c_106 hc, nI_1]
    · rw [c_skipN hT hc hk (by decide) z, oB_of, if_pos rfl, oR_of (sh19 hs)]
      by_cases z2 : tK t k = 47
      · rw [c_skipY hT hc hk (by decide) z2, oB_of, if_neg (by decide), c_106 hc, nI_1]
      · have z3 : tK t k = 37 := (ho'.resolve_left z).resolve_left z2
        rw [c_skipN hT hc hk (by decide) z2, oB_of, if_pos rfl, oR_of (sh19 hs), c_skipY hT hc hk (by decide) z3, oB_of, if_neg (by decide), c_106 hc, nI_1]
set_option maxRecDepth 100000 in
theorem c_loopN (hT : TkO t) (hc : LXc t q c) (hk : k ≤ tM t) {x3 : Nat} (h3 : x3 < 400) {l : Nat} (hl : l < 2) {x2 : Int32} {N : Nat} (ho : ¬ opL l (tK t k)) : rX4_readSum_26 rT rS_ rP rA (N + 1) (cS c k p L cd wt) 19 (nI l) x2 (nI x3) = some (1, cS c k p L cd wt) := by
  have hs : hSh (cS c k p L cd wt) := hc.1
  have h4 := hT.1
  show bX4_readSum_26 rT rS_ rP rA (rX4_readSum_26 rT rS_ rP rA N) _ 19 (nI l) x2 (nI x3) = _
  unfold bX4_readSum_26 bX4_readSum_106
  rw [if_neg (show ¬ (400 : Int32) ≤ nI x3 from nI_ge (b := 400) h3 (by decide)), oK_of (sh19 hs), rf19_0 hs, oNn_of, oK_of (sh19 hs), oI_of, cS_4, oA_k (sh20 hs) (by omega) (by decide), oI_of, clm (by omega), cS_K hc hk]
  rcases (show l = 0 ∨ l = 1 by omega) with rfl | rfl
  · have ho' : ¬ (tK t k = 43 ∨ tK t k = 45) := ho
    rw [if_pos (show nI 0 = 0 from rfl), oR_of (sh19 hs), c_skipN hT hc hk (by decide) (fun w => ho' (Or.inl w)), oB_of, if_pos rfl, oR_of (sh19 hs), c_skipN hT hc hk (by decide) (fun w => ho' (Or.inr w)), oB_of, if_pos rfl, if_pos rfl, oZ1]
  · have ho' : ¬ (tK t k = 42 ∨ tK t k = 47 ∨ tK t k = 37) := ho
    rw [if_neg (show ¬ nI 1 = 0 by decide), oR_of (sh19 hs), c_skipN hT hc hk (by decide) (fun w => ho' (Or.inl w)), oB_of, if_pos rfl, oR_of (sh19 hs), c_skipN hT hc hk (by decide) (fun w => ho' (Or.inr (Or.inl w))), oB_of, if_pos rfl, oR_of (sh19 hs), c_skipN hT hc hk (by decide) (fun w => ho' (Or.inr (Or.inr w))), oB_of, if_pos rfl, if_pos rfl, oZ1]
end
/-- what the class has when it has read -/
def OkC (t : Tk) (q : Bool) (m : Mm) (tst a b str : Int32) (Pq : Int32 → Prop) (vq : ((Nat → Int32) → Int64) → Prop) (k p L nc np br : Nat) (cd wt op ar pl pa : Nat → Int32) (k' p' L' : Nat) (cd' wt' : Nat → Int32) : Prop := k < k' ∧ p < p' ∧ p' ≤ 50 ∧ L < L' ∧ L' + k ≤ L + k' ∧ (∀ j, j < L → cd' j = cd j ∧ wt' j = wt j) ∧ ∃ f, (∀ W, CSeg cd' wt' W L L' (p' - p) (f W)) ∧ vq f ∧ Gd t q m tst a b str Pq k p nc np br op ar pl pa k' p' f
def JSr (t : Tk) (q : Bool) (c m : Mm) (tst : Int32) (l k p L nc np br : Nat) (cd wt op ar pl pa : Nat → Int32) (X : Option (Int32 × Mm)) : Prop := ∃ r k' p' L' cd' wt', X = some (r, cS c k' p' L' cd' wt') ∧ k ≤ k' ∧ k' ≤ tM t ∧ ((r = 0 ∧ Bd t m tst 1 k p nc np br op ar pl pa k') ∨ (r = 1 ∧ nopS l (tK t k') ∧ OkC t q m tst 1 3 (strS l) isB sv k p L nc np br cd wt op ar pl pa k' p' L' cd' wt'))
def JS (t : Tk) (q : Bool) (c m : Mm) (tst : Int32) (n l : Nat) : Prop := ∀ k p L nc np br cd wt op ar pl pa, 1 ≤ k → k ≤ tM t → L ≤ k → p ≤ 50 → br ≤ 8 → IV k nc np pl pa → Tp pl np (strS l) → (4 - l) + 4 * (8 - br) ≤ n → JSr t q c m tst l k p L nc np br cd wt op ar pl pa (frX4 n 2 (cS c k p L cd wt) 19 (nI l) (nI br))
def JPa (t : Tk) (q : Bool) (c m : Mm) (tst : Int32) (n : Nat) : Prop := ∀ k p L nc np br cd wt op ar pl pa, 1 ≤ k → k ≤ tM t → L ≤ k → p ≤ 50 → br ≤ 8 → IV k nc np pl pa → 1 + 4 * (8 - br) ≤ n → JSr t q c m tst 2 k p L nc np br cd wt op ar pl pa (frX4 n 3 (cS c k p L cd wt) 19 (nI br) 0)
section
variable {t : Tk} {q : Bool} {c m : Mm} {tst : Int32}
set_option maxRecDepth 100000 in
theorem nopS2 (x : Int32) : nopS 2 x := ⟨fun h => absurd h (by decide), fun h => absurd h (by decide)⟩
set_option maxRecDepth 100000 in
theorem nopS0_O {x : Int32} (h : nopS 0 x) : ¬ isO x := by
  obtain ⟨h1, h2⟩ := h
  have a := h1 (Nat.le_refl 0)
  have b := h2 (by decide)
  rintro (w | w | w | w | w)
  · exact a.1 w
  · exact a.2 w
  · exact b.1 w
  · exact b.2.1 w
  · exact b.2.2 w
set_option maxRecDepth 100000 in
theorem JS_loop (hT : TkO t) (hc : LXc t q c) (hm : LXm t q m) {n l : Nat} (hl : l < 2) (ih : JS t q c m tst n (l + 1)) {k p L nc np br : Nat} {cd wt op ar pl pa : Nat → Int32} (hL : L ≤ k) (hbr : br ≤ 8) (hTp : Tp pl np (strS l)) (hfu : (4 - (l + 1)) + 4 * (8 - br) ≤ n) {Nf : Nat} : ∀ (d k1 p1 L1 x3 : Nat) (cd1 wt1 : Nat → Int32), tM t - k1 ≤ d → k1 ≤ tM t → x3 + 1 ≤ k1 → nopS (l + 1) (tK t k1) → OkC t q m tst 1 3 (strS l) isB sv k p L nc np br cd wt op ar pl pa k1 p1 L1 cd1 wt1 →
    JSr t q c m tst l k p L nc np br cd wt op ar pl pa (rX4_readSum_26 (frX4 n 0) (frX4 n 2) (fun u a x => frX4 n 1 u a x 0) (fun u a x => frX4 n 3 u a x 0) (Nf + d + 1) (cS c k1 p1 L1 cd1 wt1) 19 (nI l) (nI br) (nI x3)) := by
  have h400 := hT.1
  have slh : strS l ≤ strS (l + 1) := by rcases (show l = 0 ∨ l = 1 by omega) with rfl | rfl <;> decide
  intro d
  induction d with
  | zero =>
    intro k1 p1 L1 x3 cd1 wt1 hd hk1 hx hnop hok
    have e : k1 = tM t := by omega
    have nO : ¬ opL l (tK t k1) := by
      rw [e, hT.2.2.2.2.2.1]
      unfold opL
      rcases (show l = 0 ∨ l = 1 by omega) with rfl | rfl <;> decide
    have kk := hok.1
    refine ⟨1, k1, p1, L1, cd1, wt1, c_loopN hT hc hk1 (by omega) hl nO, by omega, hk1, Or.inr ⟨rfl, ?_, hok⟩⟩
    rw [e, hT.2.2.2.2.2.1]
    exact ⟨fun _ => by decide, fun _ => by decide⟩
  | succ d ihd =>
    intro k1 p1 L1 x3 cd1 wt1 hd hk1 hx hnop hok
    have kk := hok.1
    by_cases ho : opL l (tK t k1)
    · have hO : isO (tK t k1) := by
        unfold opL at ho
        rcases (show l = 0 ∨ l = 1 by omega) with rfl | rfl
        · rcases (show tK t k1 = 43 ∨ tK t k1 = 45 from ho) with w | w
          · exact Or.inl w
          · exact Or.inr (Or.inl w)
        · rcases (show tK t k1 = 42 ∨ tK t k1 = 47 ∨ tK t k1 = 37 from ho) with w | w | w
          · exact Or.inr (Or.inr (Or.inl w))
          · exact Or.inr (Or.inr (Or.inr (Or.inl w)))
          · exact Or.inr (Or.inr (Or.inr (Or.inr w)))
      have hb : bndI (rop (tK t k1)) = strS l := by
        rcases (show l = 0 ∨ l = 1 by omega) with rfl | rfl
        · rcases (show tK t k1 = 43 ∨ tK t k1 = 45 from ho) with w | w <;> rw [w] <;> decide
        · rcases (show tK t k1 = 42 ∨ tK t k1 = 47 ∨ tK t k1 = 37 from ho) with w | w | w <;> rw [w] <;> decide
      have sl2 : strS l < strS (l + 1) := by rcases (show l = 0 ∨ l = 1 by omega) with rfl | rfl <;> decide
      have kM : k1 < tM t := TkO_lt hT hk1 (by rcases hO with w | w | w | w | w <;> rw [w] <;> decide)
      obtain ⟨o1, o2, o3, o4, o5, o6, f, f1, f2, f3⟩ := hok
      obtain ⟨st, nc1, np1, op1, ar1, pl1, pa1, s1, s2, s3, s4, s5, s6⟩ := Gd_op (hi := strS (l + 1)) hT hm hk1 (by omega) (by omega) slh hO hb hTp f3
      have Tp1 : Tp pl1 np1 (strS (l + 1)) := Or.inr (by rw [s4, Nat.add_sub_cancel, s5, hb]; exact sl2)
      obtain ⟨r, k2, p2, L2, cd2, wt2, j1, j2, j3, j4⟩ := ih (k1 + 1) p1 L1 nc1 np1 br cd1 wt1 op1 ar1 pl1 pa1 (by omega) (by omega) (by omega) o3 hbr s3 Tp1 (by omega)
      rw [show Nf + (d + 1) + 1 = Nf + d + 1 + 1 by omega, c_loopY hT hc hk1 (by omega) hl ho, j1, oB_of]
      rcases j4 with ⟨rfl, j5⟩ | ⟨rfl, j5, j6⟩
      · rw [if_pos rfl, oZ0]
        exact ⟨0, k2, p2, L2, cd2, wt2, rfl, by omega, j3, Or.inl ⟨rfl, Bd_pre s2 s1 (by omega) j2 j5⟩⟩
      · have hs2 : hSh (cS c k2 p2 L2 cd2 wt2) := hc.1
        obtain ⟨i1, i2, i3, i4, i5, i6, g, g1, g2, g3⟩ := j6
        rw [if_neg (by decide), oK_of (sh19 hs2), rf19_7 hs2, oNn_of, oR_of (sh23 hs2), c_put hc.1 (by omega), oB_of]
        refine ihd k2 p2 (L2 + 1) (x3 + 1) _ _ (by omega) j3 (by omega) j5 ⟨by omega, by omega, i3, by omega, by omega, fun j hj => ?_, fun W => jn (tK t k1) (f W) (g W), fun W => ?_, fun W hW => fit_jn hW, s6 k2 p2 g (by omega) (by omega) j3 g3⟩
        · rw [pk_un (by omega), pk_un (by omega)]
          exact ⟨(i6 j (by omega)).1.trans (o6 j hj).1, (i6 j (by omega)).2.trans (o6 j hj).2⟩
        · have C1 := CSeg_eq (cd' := upd cd2 L2 (tK t k1)) (wt' := upd wt2 L2 0) (f1 W) (fun i i1 i2 => by rw [pk_un (by omega), pk_un (by omega)]; exact i6 i i2)
          have C2 := CSeg_eq (cd' := upd cd2 L2 (tK t k1)) (wt' := upd wt2 L2 0) (g1 W) (fun i i1 i2 => by rw [pk_un (by omega), pk_un (by omega)]; exact ⟨rfl, rfl⟩)
          have jJ : isJ (tK t k1) := by rcases hO with w | w | w | w | w <;> rw [w] <;> decide
          have C3 := CSeg_bin (x := jn (tK t k1) (f W) (g W)) C1 C2 (Or.inl (by rw [pk_us]; exact jJ)) (fun u => by rw [pk_us]; exact c_joined jJ)
          rw [show p1 - p + (p2 - p1) = p2 - p by omega] at C3
          exact C3
    · refine ⟨1, k1, p1, L1, cd1, wt1, c_loopN hT hc hk1 (by omega) hl ho, by omega, hk1, Or.inr ⟨rfl, ?_, hok⟩⟩
      rcases (show l = 0 ∨ l = 1 by omega) with rfl | rfl
      · have ho' : ¬ (tK t k1 = 43 ∨ tK t k1 = 45) := ho
        exact ⟨fun _ => ⟨fun w => ho' (Or.inl w), fun w => ho' (Or.inr w)⟩, fun _ => hnop.2 (by decide)⟩
      · have ho' : ¬ (tK t k1 = 42 ∨ tK t k1 = 47 ∨ tK t k1 = 37) := ho
        exact ⟨fun w => absurd w (by decide), fun _ => ⟨fun w => ho' (Or.inl w), fun w => ho' (Or.inr (Or.inl w)), fun w => ho' (Or.inr (Or.inr w))⟩⟩
set_option maxRecDepth 100000 in
theorem JPa_succ (hT : TkO t) (hc : LXc t q c) (hm : LXm t q m) {n : Nat} (ih : JS t q c m tst n 0) : JPa t q c m tst (n + 1) := by
  have h400 := hT.1
  intro k p L nc np br cd wt op ar pl pa k1 hk hL hp hbr hIV hfu
  have hs : ∀ k p L cd wt, hSh (cS c k p L cd wt) := fun _ _ _ _ _ => hc.1
  rw [frX4_3]
  by_cases h91 : tK t k = 91
  · have kM : k < tM t := TkO_lt hT hk (by rw [h91]; decide)
    have i1 := hIV.1
    by_cases b8 : br < 8
    · have nb : nI br + 1 = nI (br + 1) := nI_1 br
      have step : ∀ N, rX9_readExpression_20 (N + 1) (rS t m k nc p np br op ar pl pa) 45 tst 1 = rX9_readExpression_20 N (rS t m (k + 1) nc p (np + 1) (br + 1) op ar (upd pl np 32) (upd pa np 0)) 45 tst 1 := by
        intro N
        refine R_1 hm ?_
        rw [p_sq hT hm hk h91 (r_open hm kM (by omega) b8), oB_of]
      obtain ⟨r, k2, p2, L2, cd2, wt2, j1, j2, j3, j4⟩ := ih (k + 1) p L nc (np + 1) (br + 1) cd wt op ar (upd pl np 32) (upd pa np 0) (by omega) (by omega) (by omega) hp (by omega) (IV_push (y := 0) hIV (by decide)) (Tp_up (by decide)) (by omega)
      have j1' : frX4 n 2 (cS c (k + 1) p L cd wt) 19 0 (nI (br + 1)) = some (r, cS c k2 p2 L2 cd2 wt2) := j1
      have cl : fgX4_readPart (frX4 n 0) (frX4 n 2) (fun u a x => frX4 n 1 u a x 0) (fun u a x => frX4 n 3 u a x 0) (cS c k p L cd wt) 19 (nI br) = (if (r : Int32) = 0 then some (0, cS c k2 p2 L2 cd2 wt2) else oB (fX4_skip (cS c k2 p2 L2 cd2 wt2) 19 93) (fun v25 u26 => if (v25 : Int32) = 0 then some (0, u26) else some (1, u26))) := by
        unfold fgX4_readPart bX4_readPart_54
        rw [oK_of (sh19 (hs _ _ _ _ _)), rf19_0 (hs _ _ _ _ _), oNn_of, oK_of (sh19 (hs _ _ _ _ _)), oI_of, cS_4, oA_k (sh20 (hs _ _ _ _ _)) (by omega) (by decide), oI_of, clm (by omega), cS_K hc hk, if_pos h91, if_neg (show ¬ (8 : Int32) ≤ nI br from nI_ge (b := 8) b8 (by decide)), oR_of (sh19 (hs _ _ _ _ _)), c_skipY hT hc hk (by decide) h91, oB_of, if_neg (by decide), oR_of (sh19 (hs _ _ _ _ _)), nb, j1', oB_of, oZ0]
        by_cases z : r = 0
        · rw [if_pos z, if_pos z]
        · rw [if_neg z, if_neg z, oR_of (sh19 (hs _ _ _ _ _))]
          by_cases y : tK t k2 = 93
          · rw [c_skipY hT hc j3 (by decide) y, oB_of, oB_of, if_neg (by decide), if_neg (by decide), oZ1]
          · rw [c_skipN hT hc j3 (by decide) y, oB_of, oB_of, if_pos rfl, if_pos rfl, oZ0]
      rw [cl]
      rcases j4 with ⟨rfl, j5⟩ | ⟨rfl, j5, j6⟩
      · rw [if_pos rfl]
        exact ⟨0, k2, p2, L2, cd2, wt2, rfl, by omega, j3, Or.inl ⟨rfl, Bd_pre step (by omega) (by omega) j2 j5⟩⟩
      · obtain ⟨i1', i2, i3, i4, i5, i6, g, g1, g2, st2, nc2, d2, op2, ar2, pl2, pa2, e2, op3, ar3, x1, x2, x3, x4, x5, x6, x7, x8, x9⟩ := j6
        have hn2 := x3.1
        have pl2np : pl2 np = 32 := by rw [(x4 np (by omega)).1, pk_us]
        have inn : innF pl2 (np + 1 + d2) = 32 := by
          rw [innF_pend d2 (fun j a1 a2 => isB_n (x5 j a1 a2)), innF_s, pl2np, if_neg (by decide)]
        have e1 : pot (upd pl np 32) (np + 1) = pot pl np + 1 := by rw [pot_s, pot_upd, pk_us, if_neg (by decide)]
        rw [e1] at x8
        have run : ∀ N, rX9_readExpression_20 (N + (st2 + 1)) (rS t m k nc p np br op ar pl pa) 45 tst 1 = rX9_readExpression_20 N (rS t m k2 nc2 p2 (np + 1 + d2) (br + 1) op2 ar2 pl2 pa2) 45 tst 3 := by
          intro N
          rw [show N + (st2 + 1) = N + st2 + 1 by omega, step, x2]
        rw [if_neg (by decide)]
        by_cases h93 : tK t k2 = 93
        · have kM2 : k2 < tM t := TkO_lt hT j3 (by rw [h93]; decide)
          rw [c_skipY hT hc j3 (by decide) h93, oB_of, if_neg (by decide)]
          refine ⟨1, k2 + 1, p2, L2, cd2, wt2, rfl, by omega, by omega, Or.inr ⟨rfl, nopS2 _, by omega, by omega, i3, by omega, by omega, i6, g, g1, g2, st2 + 1 + 1, e2, 0, op3, ar3, pl2, pa2, e2, op3, ar3, by omega, fun N => ?_, ⟨by omega, ?_, fun j hj => x3.2.2 j (by omega)⟩, fun j hj => ?_, fun j a1 a2 => absurd a2 (by omega), Pops_0, x7, by omega, x9⟩⟩
          · rw [show N + (st2 + 1 + 1) = N + 1 + (st2 + 1) by omega, run, R_3 hm (b_close hT hm j3 h93 inn x6 (by omega) (Or.inr (by rw [Nat.add_sub_cancel, pl2np]; decide)) rfl rfl)]
            rfl
          · show e2 + pot pl2 np ≤ k2 + 1
            rw [pot_eq np (fun j hj => by rw [(x4 j (by omega)).1, pk_un (by omega)])]
            omega
          · have y := x4 j (by omega)
            rw [pk_un (by omega), pk_un (by omega)] at y
            exact y
        · rw [c_skipN hT hc j3 (by decide) h93, oB_of, if_pos rfl]
          refine ⟨0, k2, p2, L2, cd2, wt2, rfl, by omega, j3, Or.inl ⟨rfl, Bd_pre run (by omega) (by omega) (Nat.le_refl k2) (Bd_1 (fun N => R_3 hm (b_closeB hT hm j3 (nopS0_O j5) h93 inn (by omega))) x3)⟩⟩
    · have cl : fgX4_readPart (frX4 n 0) (frX4 n 2) (fun u a x => frX4 n 1 u a x 0) (fun u a x => frX4 n 3 u a x 0) (cS c k p L cd wt) 19 (nI br) = some (0, cS c k p L cd wt) := by
        unfold fgX4_readPart bX4_readPart_54
        rw [oK_of (sh19 (hs _ _ _ _ _)), rf19_0 (hs _ _ _ _ _), oNn_of, oK_of (sh19 (hs _ _ _ _ _)), oI_of, cS_4, oA_k (sh20 (hs _ _ _ _ _)) (by omega) (by decide), oI_of, clm (by omega), cS_K hc hk, if_pos h91, if_pos (show (8 : Int32) ≤ nI br from nI_le (a := 8) (by omega) (by omega)), oZ0]
      rw [cl]
      have hb : fX9_readPart (rS t m k nc p np br op ar pl pa) 45 = some (1, rS t (mB t m k) k nc p np br op ar pl pa) := by
        rw [p_sq hT hm hk h91 (r_openB hm (by omega) (by omega)), oB_of]
      exact ⟨0, k, p, L, cd, wt, rfl, Nat.le_refl k, hk, Or.inl ⟨rfl, Bd_1 (fun N => R_1 hm hb) hIV⟩⟩
  · have i1 := hIV.1
    have i2 := hIV.2.1
    rcases J_leaf (np := np) (no := br) (cd := cd) (wt := wt) (op := op) (ar := ar) (pl := pl) (pa := pa) hT hc hm hk hL hp (show nc ≤ k by omega) h91 with ⟨k', o, w, ro, ra, l1, l2, l3, l4, l5, l6, l7, l8⟩ | ⟨k', p', L', cd', wt', nc', nl', op', ar', l1, l2, l3, l4, l5⟩
    · rw [l7]
      refine ⟨1, k', p + 1, L + 1, upd cd L o, upd wt L w, rfl, by omega, l3, Or.inr ⟨rfl, nopS2 _, l2, by omega, by omega, by omega, by omega, fun j hj => ⟨pk_un (by omega), pk_un (by omega)⟩, fun W => leafV W o w, fun W => ?_, fun W _ => leaf_fit, 1, nc + 1, 0, upd op nc ro, upd ar nc ra, pl, pa, nc + 1, upd op nc ro, upd ar nc ra, by omega, fun N => R_1 hm l8, ⟨by omega, by show nc + 1 + pot pl np ≤ k'; omega, hIV.2.2⟩, fun j _ => ⟨rfl, rfl⟩, fun j a1 a2 => absurd a2 (by omega), Pops_0, fun j hj => ⟨pk_un (by omega), pk_un (by omega)⟩, by omega, fun W => ?_⟩⟩
      · rw [Nat.add_sub_cancel_left]
        refine CSeg_leaf (by rw [pk_us]; exact l4) (by rw [pk_us, pk_us])
      · rw [Nat.add_sub_cancel_left]
        refine RSeg_leaf (by rw [pk_us, pk_us]; exact l5) (by rw [pk_us, pk_us]; exact l6 W) leaf_ne
    · rw [l4]
      exact ⟨0, k', p', L', cd', wt', rfl, l1, l2, Or.inl ⟨rfl, Bd_1 (fun N => R_1 hm l5) ⟨by omega, by omega, hIV.2.2⟩⟩⟩
set_option maxRecDepth 100000 in
theorem JS_all (hT : TkO t) (hc : LXc t q c) (hm : LXm t q m) : ∀ n, (∀ l, l ≤ 2 → JS t q c m tst n l) ∧ JPa t q c m tst n := by
  intro n
  induction n with
  | zero =>
    refine ⟨fun l hl => ?_, ?_⟩
    · intro k p L nc np br cd wt op ar pl pa _ _ _ _ _ _ _ h
      omega
    · intro k p L nc np br cd wt op ar pl pa _ _ _ _ _ _ h
      omega
  | succ n ih =>
    refine ⟨fun l hl => ?_, JPa_succ hT hc hm (ih.1 0 (by decide))⟩
    intro k p L nc np br cd wt op ar pl pa k1 hk hL hp hbr hIV hTp hfu
    have hs : hSh (cS c k p L cd wt) := hc.1
    have h400 := hT.1
    rw [frX4_2]
    unfold fgX4_readSum
    by_cases l2 : l = 2
    · subst l2
      obtain ⟨r, k', p', L', cd', wt', a1, a2, a3, a4⟩ := ih.2 k p L nc np br cd wt op ar pl pa k1 hk hL hp hbr hIV (by omega)
      have a1' : (fun u a x => frX4 n 3 u a x 0) (cS c k p L cd wt) 19 (nI br) = some (r, cS c k' p' L' cd' wt') := a1
      rw [if_neg (show ¬ nI 2 < 2 by decide), oR_of (sh19 hs), a1', oB_of]
      have r01 : oZ r (some (r, cS c k' p' L' cd' wt')) = some (r, cS c k' p' L' cd' wt') := by
        rcases a4 with ⟨rfl, -⟩ | ⟨rfl, -⟩
        · rw [oZ0]
        · rw [oZ1]
      rw [r01]
      exact ⟨r, k', p', L', cd', wt', rfl, a2, a3, a4⟩
    · have hl2 : l < 2 := by omega
      have slh : strS l ≤ strS (l + 1) := by rcases (show l = 0 ∨ l = 1 by omega) with rfl | rfl <;> decide
      have slt : strS l < strS (l + 1) := by rcases (show l = 0 ∨ l = 1 by omega) with rfl | rfl <;> decide
      have Tp1 : Tp pl np (strS (l + 1)) := by
        rcases hTp with z | z
        · exact Or.inl z
        · exact Or.inr (Int32.lt_of_lt_of_le z slh)
      obtain ⟨r, k', p', L', cd', wt', a1, a2, a3, a4⟩ := ih.1 (l + 1) (by omega) k p L nc np br cd wt op ar pl pa k1 hk hL hp hbr hIV Tp1 (by omega)
      rw [if_pos (show nI l < 2 from nI_lt (b := 2) hl2 (by decide)), oR_of (sh19 hs), nI_1, a1, oB_of]
      rcases a4 with ⟨rfl, b1⟩ | ⟨rfl, b1, b2⟩
      · rw [if_pos rfl, oZ0]
        exact ⟨0, k', p', L', cd', wt', rfl, a2, a3, Or.inl ⟨rfl, b1⟩⟩
      · rw [if_neg (by decide)]
        obtain ⟨c1, c2, c3, c4, c5, c6, f, f1, f2, f3⟩ := b2
        have lp := JS_loop (cd := cd) (wt := wt) (op := op) (ar := ar) (pl := pl) (pa := pa) (nc := nc) (np := np) (p := p) hT hc hm hl2 (ih.1 (l + 1) (by omega)) hL hbr hTp (by omega) (Nf := 999999 - (tM t - k')) (tM t - k') k' p' L' 0 cd' wt' (Nat.le_refl _) a3 (by omega) b1 ⟨c1, c2, c3, c4, c5, c6, f, f1, f2, Gd_le f3 slh⟩
        rw [show 999999 - (tM t - k') + (tM t - k') + 1 = hwF by unfold hwF; omega] at lp
        exact lp
end
