/-! ===== an order's clause, by both ===== -/
def R01 (X : Option (Int32 × Mm)) : Prop := ∃ r s, X = some (r, s) ∧ (r = 0 ∨ r = 1) ∧ hSh s
def R9_ (Y : Option (Unit × Mm)) : Prop := ∃ s, Y = some ((), s) ∧ hSh s
section
variable {t : Tk} {c0 m0 : Mm} {n h k0 L0 nc0 : Nat} {cd0 wt0 op0 ar0 : Nat → Int32}
set_option maxRecDepth 100000 in
theorem ORd_R {i : Nat} {X : Option (Int32 × Mm)} {Y : Option (Unit × Mm)} (hc : LXc t true c0) (h0 : hSh m0) (H : ORd t c0 m0 n h k0 L0 nc0 cd0 wt0 op0 ar0 i X Y) : R01 X ∧ R9_ Y := by
  obtain ⟨r, c1, k1, p1, L1, cd1, wt1, a1, a2, a3, a4, a5⟩ := H
  have hs : hSh (cS c1 k1 p1 L1 cd1 wt1) := show hSh c1 from (CFr_LX a4 hc).1
  rcases a5 with ⟨rfl, s, s1, s2⟩ | ⟨rfl, m1, nc1, np, no, op1, ar1, pl, pa, fS, b1, klt, d⟩
  · exact ⟨⟨_, _, a1, Or.inl rfl, hs⟩, s, s1, (Bad9_sh h0 s2).1⟩
  · exact ⟨⟨_, _, a1, Or.inr rfl, hs⟩, _, b1, show hSh m1 from BFr_sh d.mb h0⟩
set_option maxRecDepth 100000 in
theorem st_eq {ρ : Type} {X : Option (Int32 × Mm)} {P Q : Mm → Option ρ} {F : Int32 → Mm → Option ρ} (h : R01 X) (hP : ∀ u, P u = F 0 u) (hQ : ∀ u, Q u = F 1 u) : oB X (fun v u => if v = 0 then P u else Q u) = oB X F := by
  obtain ⟨r, s, e, (rfl | rfl), hs⟩ := h
  · rw [e, oB_of, oB_of, if_pos rfl, hP]
  · rw [e, oB_of, oB_of, if_neg (by decide), hQ]
set_option maxRecDepth 100000 in
theorem c_nx {ρ : Type} {X : Option (Int32 × Mm)} {P : Mm → Option ρ} {F : Int32 → Mm → Option ρ} {x y : Int32} (h : R01 X) (hP : ∀ u, P u = F 0 u) : oB X (fun v u => if v = 0 then P u else oR u 19 4 (oB (fX4_readSumBehind u 19 x y) F)) = oB (oB X (fun v u => if v = 0 then some (0, u) else fX4_readSumBehind u 19 x y)) F := by
  obtain ⟨r, s, e, (rfl | rfl), hs⟩ := h
  · rw [e, oB_of, oB_of, if_pos rfl, if_pos rfl, oB_of, hP]
  · rw [e, oB_of, oB_of, if_neg (by decide), if_neg (by decide), oR_of (sh19 hs)]
set_option maxRecDepth 100000 in
theorem y_nx {ρ : Type} {Y : Option (Unit × Mm)} {G : Unit → Mm → Option ρ} {w : Int64} {a : Int32} (h : R9_ Y) : oB Y (fun _ u => oR u 45 9 (oB (fX9_behind u 45 w a) G)) = oB (oB Y (fun _ u => fX9_behind u 45 w a)) G := by
  obtain ⟨s, e, hs⟩ := h
  rw [e, oB_of, oB_of, oR_of (sh45 hs)]
end
section
variable {t : Tk} {c m : Mm} {k p L nc np no n : Nat} {cd wt op ar pl pa : Nat → Int32}
set_option maxRecDepth 100000 in
theorem J_oclause (hT : TkO t) (hc : LXc t true c) (hm : LXm t true m) (hM : ∀ m', BFr m m' → mI m' 45 19 = 0 → LXm t true m') (hk : k ≤ tM t) (hL : L ≤ k) (hp : p ≤ 50) (hnc : nc ≤ k) (hn : n < 12) (h6 : mI c 23 6 = nI n) (h21 : mI m 45 21 = nI n) : OCl t c m k L nc n cd wt op ar (fX4_readClause (cS c k p L cd wt) 19) (fX9_readOrder (rS t m k nc p np no op ar pl pa) 45) := by
  have h400 := hT.1
  have hs : ∀ c', hSh c' → ∀ k p L cd wt, hSh (cS c' k p L cd wt) := fun _ h _ _ _ _ _ => h
  have kB : ∀ x, CFr c (bCl c n x) n := fun x => CFr_bCl
  have n12 : ¬ (12 : Int32) ≤ mI m 45 21 := by rw [h21]; exact nI_ge (b := 12) hn (by decide)
  have hcB : LXc t true (bCl c n (tK t k)) := CFr_LX (kB _) hc
  have cl : fX4_readClause (cS c k p L cd wt) 19 = oB (fX4_readOrder (cS (bCl c n (tK t k)) k p L cd wt) 19 (tK t k)) (fun v15 u16 => bX4_readClause_38 u16 19 v15) := by
    unfold fX4_readClause
    rw [oK_of (sh19 (hs _ hc.1 _ _ _ _ _)), rf19_0 (hs _ hc.1 _ _ _ _ _), oNn_of, oK_of (sh19 (hs _ hc.1 _ _ _ _ _)), oI_of, cS_4, oA_k (sh20 (hs _ hc.1 _ _ _ _ _)) (by omega) (by decide), oI_of, clm (by omega), cS_K hc hk, oK_of (sh19 (hs _ hc.1 _ _ _ _ _)), rf19_7 (hs _ hc.1 _ _ _ _ _), oNn_of, oR_of (sh23 (hs _ hc.1 _ _ _ _ _)), c_beginClause hc.1 hn h6, oB_of, oK_of (sh19 (hs _ hcB.1 _ _ _ _ _)), oI_of, cS_6 hcB, if_pos (by decide), oR_of (sh19 (hs _ hcB.1 _ _ _ _ _))]
  have B26 : mI (bCl c n (tK t k)) 26 n = tK t k := by show upd (mI c 26) n (tK t k) n = _; rw [pk_us]
  have B27 : mI (bCl c n (tK t k)) 27 n = 1 := by show upd (mI c 27) n 1 n = _; rw [pk_us]
  have B28 : ∀ j, j < 4 → mI (bCl c n (tK t k)) 28 (4 * n + j) = -1 := by
    intro j hj
    show stF (mI c 28) n 4 (4 * n + j) = -1
    unfold stF
    rw [if_pos (by omega)]
  rw [cl]
  by_cases hh : ∃ h, h < 4 ∧ tK t k = nI (260 + h)
  · obtain ⟨h, h4, eK⟩ := hh
    have x286 : ¬ tK t k = 286 := by rw [eK]; exact nIne (b := 286) (by omega) (by omega) (by decide)
    have kM : k < tM t := TkO_lt hT hk x286
    have hdE : hdO (tK t k) 4 = nI h := by rw [eK, hdO_y h h4]
    have nm1 : ¬ nI h = -1 := by
      intro w
      have := congrArg Int32.toInt w
      rw [nI_toInt (by omega)] at this
      have m1 : (-1 : Int32).toInt = -1 := by decide
      omega
    have ref : fX9_readOrder (rS t m k nc p np no op ar pl pa) 45 = r_O (rS t (mO m n (nI h)) (k + 1) nc p np no op ar pl pa) (nI h) n := by
      rw [r_readOrder hT hm.1 hk, hdE, if_neg nm1, if_neg n12, r_54O hm kM hn h21]
    have hsO : ∀ k, hSh (rS t (mO m n (nI h)) k nc p np no op ar pl pa) := fun _ => hm.1
    have d0 : Mid t c m n h k L nc cd wt op ar 0 (fun _ _ => 0) (bCl c n (tK t k)) k p L cd wt (mO m n (nI h)) nc op ar := ⟨Nat.le_refl k, hk, hp, Nat.le_refl L, hL, fun _ _ => ⟨rfl, rfl⟩, Or.inl rfl, Nat.le_refl nc, hnc, fun _ _ => ⟨rfl, rfl⟩, kB _, B26.trans eK, B27, fun j _ hj => B28 j hj, mO_BFr, hm.2.2.1, rfl, mO_21, fun j hj => mO_lo hj, w9_at, fun j _ hj => ⟨mO_z (by omega) (by omega), mO_z (by omega) (by omega)⟩, fun j hj => absurd hj (Nat.not_lt_zero j)⟩
    have o1 := Mid_sum (np := np) (no := no) (pl := pl) (pa := pa) hT hn hc hM (by decide) d0 (x := tK t k) x286 rfl
    rw [show 10 * n + 1 + 2 * 0 = 10 * n + 1 by omega, show nI 0 = (0 : Int32) from rfl] at o1
    have f56 : ∀ u, bX4_readOrder_56 u 19 = bX4_readOrder_141 u 19 0 := fun _ => rfl
    have f96 : ∀ u, bX4_readOrder_96 u 19 = bX4_readOrder_141 u 19 0 := fun _ => rfl
    have f125 : ∀ u, bX4_readOrder_125 u 19 = bX4_readOrder_141 u 19 0 := fun _ => rfl
    have i3 : nI (10 * n) + 3 = nI (10 * n + 1 + 2 * 1) := by rw [show (3 : Int32) = nI 3 from rfl, nI_add]
    have i5 : nI (10 * n) + 5 = nI (10 * n + 1 + 2 * 2) := by rw [show (5 : Int32) = nI 5 from rfl, nI_add]
    rw [ref]
    rcases (show h = 0 ∨ h = 1 ∨ h = 2 ∨ h = 3 by omega) with rfl | rfl | rfl | rfl
    · have e0 : tK t k = 260 := eK
      have o2 := ORd_step (iw := 8) hT hn hc hm.1 hM (by decide) (by decide) (x := 264) rfl (w := 52) rfl o1
      have fin := ORd_end hT hn h4 hc hm.1 hM o2
      have X : fX4_readOrder (cS (bCl c n (tK t k)) k p L cd wt) 19 (tK t k) = oB (oB (fX4_readSumBehind (cS (bCl c n (tK t k)) k p L cd wt) 19 (tK t k) 0) (fun v u => if v = 0 then some (0, u) else fX4_readSumBehind u 19 264 1)) (fun v u => bX4_readOrder_141 u 19 v) := by
        refine Eq.trans ?_ ((c_nx (P := fun u => bX4_readOrder_56 u 19) (F := fun v u => if v = 0 then bX4_readOrder_56 u 19 else bX4_readOrder_57 u 19 1) (x := 264) (y := 1) (ORd_R hc hm.1 o1).1 (fun u => (if_pos rfl).symm)).trans (st_eq (ORd_R hc hm.1 o2).1 (fun u => rfl) (fun u => rfl)))
        unfold fX4_readOrder
        rw [if_pos e0, oR_of (sh19 (hs _ hcB.1 _ _ _ _ _))]
      have Y : r_O (rS t (mO m n (nI 0)) (k + 1) nc p np no op ar pl pa) (nI 0) n = oB (oB (fX9_readSum (rS t (mO m n (nI 0)) (k + 1) nc p np no op ar pl pa) 45 (nI (10 * n + 1))) (fun _ u => fX9_behind u 45 52 (nI (10 * n + 1 + 2 * 1)))) (fun _ u => bX9_readOrder_161 u 45 (nI (10 * n))) := by
        refine Eq.trans ?_ (y_nx (ORd_R hc hm.1 o1).2)
        unfold r_O bX9_readOrder_140 bX9_readOrder_146
        rw [if_neg (by decide), i3]
        rfl
      rw [X, Y]
      exact fin
    · have e0 : tK t k = 261 := eK
      have o2 := ORd_step (iw := 8) hT hn hc hm.1 hM (by decide) (by decide) (x := 264) rfl (w := 52) rfl o1
      have o3 := ORd_step (iw := 9) hT hn hc hm.1 hM (by decide) (by decide) (x := 265) rfl (w := 89) rfl o2
      have fin := ORd_end hT hn h4 hc hm.1 hM o3
      have X : fX4_readOrder (cS (bCl c n (tK t k)) k p L cd wt) 19 (tK t k) = oB (oB (oB (fX4_readSumBehind (cS (bCl c n (tK t k)) k p L cd wt) 19 (tK t k) 0) (fun v u => if v = 0 then some (0, u) else fX4_readSumBehind u 19 264 1)) (fun v u => if v = 0 then some (0, u) else fX4_readSumBehind u 19 265 2)) (fun v u => bX4_readOrder_141 u 19 v) := by
        refine Eq.trans ?_ ((c_nx (P := fun u => bX4_readOrder_96 u 19) (F := fun v u => if v = 0 then bX4_readOrder_96 u 19 else oR u 19 4 (oB (fX4_readSumBehind u 19 265 2) (fun v u => if v = 0 then bX4_readOrder_96 u 19 else bX4_readOrder_97 u 19 1))) (x := 264) (y := 1) (ORd_R hc hm.1 o1).1 (fun u => (if_pos rfl).symm)).trans ((c_nx (P := fun u => bX4_readOrder_96 u 19) (F := fun v u => if v = 0 then bX4_readOrder_96 u 19 else bX4_readOrder_97 u 19 1) (x := 265) (y := 2) (ORd_R hc hm.1 o2).1 (fun u => (if_pos rfl).symm)).trans (st_eq (ORd_R hc hm.1 o3).1 (fun u => rfl) (fun u => rfl))))
        unfold fX4_readOrder
        rw [if_neg (show ¬ tK t k = 260 by rw [e0]; decide), if_pos e0, oR_of (sh19 (hs _ hcB.1 _ _ _ _ _))]
      have Y : r_O (rS t (mO m n (nI 1)) (k + 1) nc p np no op ar pl pa) (nI 1) n = oB (oB (oB (fX9_readSum (rS t (mO m n (nI 1)) (k + 1) nc p np no op ar pl pa) 45 (nI (10 * n + 1))) (fun _ u => fX9_behind u 45 52 (nI (10 * n + 1 + 2 * 1)))) (fun _ u => fX9_behind u 45 89 (nI (10 * n + 1 + 2 * 2)))) (fun _ u => bX9_readOrder_161 u 45 (nI (10 * n))) := by
        refine Eq.trans ?_ ((y_nx (G := fun _ u => oR u 45 9 (oB (fX9_behind u 45 89 (nI (10 * n + 1 + 2 * 2))) (fun _ u => bX9_readOrder_161 u 45 (nI (10 * n))))) (ORd_R hc hm.1 o1).2).trans (y_nx (ORd_R hc hm.1 o2).2))
        unfold r_O bX9_readOrder_140 bX9_readOrder_146
        rw [if_neg (by decide), i3, i5]
        rfl
      rw [X, Y]
      exact fin
    · have e0 : tK t k = 262 := eK
      have o2 := ORd_step (iw := 10) hT hn hc hm.1 hM (by decide) (by decide) (x := 266) rfl (w := 655) rfl o1
      have fin := ORd_end hT hn h4 hc hm.1 hM o2
      have X : fX4_readOrder (cS (bCl c n (tK t k)) k p L cd wt) 19 (tK t k) = oB (oB (fX4_readSumBehind (cS (bCl c n (tK t k)) k p L cd wt) 19 (tK t k) 0) (fun v u => if v = 0 then some (0, u) else fX4_readSumBehind u 19 266 1)) (fun v u => bX4_readOrder_141 u 19 v) := by
        refine Eq.trans ?_ ((c_nx (P := fun u => bX4_readOrder_125 u 19) (F := fun v u => if v = 0 then bX4_readOrder_125 u 19 else bX4_readOrder_126 u 19 1) (x := 266) (y := 1) (ORd_R hc hm.1 o1).1 (fun u => (if_pos rfl).symm)).trans (st_eq (ORd_R hc hm.1 o2).1 (fun u => rfl) (fun u => rfl)))
        unfold fX4_readOrder
        rw [if_neg (show ¬ tK t k = 260 by rw [e0]; decide), if_neg (show ¬ tK t k = 261 by rw [e0]; decide), if_pos e0, oR_of (sh19 (hs _ hcB.1 _ _ _ _ _))]
      have Y : r_O (rS t (mO m n (nI 2)) (k + 1) nc p np no op ar pl pa) (nI 2) n = oB (oB (fX9_readSum (rS t (mO m n (nI 2)) (k + 1) nc p np no op ar pl pa) 45 (nI (10 * n + 1))) (fun _ u => fX9_behind u 45 655 (nI (10 * n + 1 + 2 * 1)))) (fun _ u => bX9_readOrder_161 u 45 (nI (10 * n))) := by
        refine Eq.trans ?_ (y_nx (ORd_R hc hm.1 o1).2)
        unfold r_O bX9_readOrder_140 bX9_readOrder_146
        rw [if_neg (by decide), i3]
        rfl
      rw [X, Y]
      exact fin
    · have e0 : tK t k = 263 := eK
      have X : fX4_readOrder (cS (bCl c n (tK t k)) k p L cd wt) 19 (tK t k) = oB (some (1, cS (bCl c n (tK t k)) (k + 1) p L cd wt)) (fun v u => bX4_readOrder_141 u 19 v) := by
        unfold fX4_readOrder
        rw [if_neg (show ¬ tK t k = 260 by rw [e0]; decide), if_neg (show ¬ tK t k = 261 by rw [e0]; decide), if_neg (show ¬ tK t k = 262 by rw [e0]; decide), if_pos e0, oR_of (sh19 (hs _ hcB.1 _ _ _ _ _)), c_skipY hT hcB hk x286 rfl]
      have Y : r_O (rS t (mO m n (nI 3)) (k + 1) nc p np no op ar pl pa) (nI 3) n = oB (some ((), rS t (mO m n (nI 3)) (k + 1) nc p np no op ar pl pa)) (fun _ u => bX9_readOrder_161 u 45 (nI (10 * n))) := by
        unfold r_O bX9_readOrder_146
        rw [if_pos (by decide), if_neg (by decide), oB_of]
      have d1 : Mid t c m n 3 k L nc cd wt op ar 0 (fun _ _ => 0) (bCl c n (tK t k)) (k + 1) p L cd wt (mO m n (nI 3)) nc op ar := by
        obtain ⟨-, -, g3, g4, g5, g6, g7, g8, g9, g10⟩ := d0
        exact ⟨by omega, by omega, g3, g4, by omega, g6, g7, g8, by omega, g10⟩
      have o0 : ORd t c m n 3 k L nc cd wt op ar (nS_ 3) (some (1, cS (bCl c n (tK t k)) (k + 1) p L cd wt)) (some ((), rS t (mO m n (nI 3)) (k + 1) nc p np no op ar pl pa)) := ⟨1, _, k + 1, p, L, cd, wt, rfl, by omega, by omega, kB _, Or.inr ⟨rfl, _, nc, np, no, op, ar, pl, pa, _, rfl, by omega, d1⟩⟩
      rw [X, Y]
      exact ORd_end hT hn h4 hc hm.1 hM o0
  · have hh' : ∀ j, j < 4 → ¬ tK t k = nI (260 + j) := fun j hj e => hh ⟨j, hj, e⟩
    have bd : fX4_readOrder (cS (bCl c n (tK t k)) k p L cd wt) 19 (tK t k) = some (0, cS (bCl c n (tK t k)) k p L cd wt) := by
      unfold fX4_readOrder
      rw [if_neg (show ¬ tK t k = 260 from hh' 0 (by decide)), if_neg (show ¬ tK t k = 261 from hh' 1 (by decide)), if_neg (show ¬ tK t k = 262 from hh' 2 (by decide)), if_neg (show ¬ tK t k = 263 from hh' 3 (by decide)), oZ0]
    have e38 : bX4_readClause_38 (cS (bCl c n (tK t k)) k p L cd wt) 19 0 = some (0, cS (bCl c n (tK t k)) k p L cd wt) := by
      unfold bX4_readClause_38
      rw [if_pos rfl, oZ0]
    rw [bd, oB_of, e38, r_readOrder hT hm.1 hk, hdO_n 4 hh', if_pos rfl, r_53bad hm]
    exact ⟨0, _, k, p, L, cd, wt, rfl, Nat.le_refl k, hk, kB _, Or.inl ⟨rfl, _, rfl, _, k, nc, p, np, no, op, ar, pl, pa, rfl, BFr_B, rfl, rfl⟩⟩
end
