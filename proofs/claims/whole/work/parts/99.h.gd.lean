/-! ===== what both have when a sum or a test is read, or a fault is found ===== -/
set_option maxRecDepth 100000 in
theorem pot_eq {pl pl' : Nat → Int32} : ∀ n, (∀ j, j < n → pl' j = pl j) → pot pl' n = pot pl n
  | 0, _ => rfl
  | n + 1, h => by rw [pot_s, pot_s, pot_eq n (fun j hj => h j (by omega)), h n (by omega)]
set_option maxRecDepth 100000 in
theorem innF_eq {pl pl' : Nat → Int32} : ∀ n, (∀ j, j < n → pl' j = pl j) → innF pl' n = innF pl n
  | 0, _ => rfl
  | n + 1, h => by rw [innF_s, innF_s, innF_eq n (fun j hj => h j (by omega)), h n (by omega)]
set_option maxRecDepth 100000 in
theorem innF_pend {pl : Nat → Int32} {n : Nat} : ∀ d, (∀ j, n ≤ j → j < n + d → pl j < 31) → innF pl (n + d) = innF pl n
  | 0, _ => rfl
  | d + 1, h => by
    rw [show n + (d + 1) = n + d + 1 by omega, innF_s, if_pos (h (n + d) (by omega) (by omega))]
    exact innF_pend d (fun j j1 j2 => h j j1 (by omega))
set_option maxRecDepth 100000 in
theorem pot_upd {pl : Nat → Int32} {n : Nat} {x : Int32} : pot (upd pl n x) n = pot pl n := pot_eq n (fun j hj => pk_un (by omega))
set_option maxRecDepth 100000 in
theorem IV_push {k nc np : Nat} {pl pa : Nat → Int32} {x : Int32} {y : Nat} (h : IV k nc np pl pa) (hy : y < 400) : IV (k + 1) nc (np + 1) (upd pl np x) (upd pa np (nI y)) := by
  obtain ⟨h1, h2, h3⟩ := h
  refine ⟨by omega, ?_, fun j hj => ?_⟩
  · rw [pot_s, pot_upd]
    split <;> omega
  · by_cases z : j = np
    · subst z; exact ⟨y, hy, pk_us⟩
    · rw [pk_un z]; exact h3 j (by omega)
set_option maxRecDepth 100000 in
theorem IV_pushj {k nc np : Nat} {pl pa : Nat → Int32} {x : Int32} {y : Nat} (h : IV k nc np pl pa) (hx : x = 29 ∨ x = 30) (hy : y < 400) : IV (k + 1) (nc + 1) (np + 1) (upd pl np x) (upd pa np (nI y)) := by
  obtain ⟨h1, h2, h3⟩ := h
  refine ⟨by omega, ?_, fun j hj => ?_⟩
  · rw [pot_s, pot_upd, pk_us, if_pos hx]; omega
  · by_cases z : j = np
    · subst z; exact ⟨y, hy, pk_us⟩
    · rw [pk_un z]; exact h3 j (by omega)
def Bd (t : Tk) (m : Mm) (tst a : Int32) (k p nc np br : Nat) (op ar pl pa : Nat → Int32) (k' : Nat) : Prop := ∃ st v nc' nl' np' no' op' ar' pl' pa', (1 ≤ st ∧ st ≤ 2 * (k' - k) + 2) ∧ (∀ N, rX9_readExpression_20 (N + st) (rS t m k nc p np br op ar pl pa) 45 tst a = rX9_readExpression_20 N (rS t (mB t m k') k' nc' nl' np' no' op' ar' pl' pa') 45 tst v) ∧ IV k' nc' np' pl' pa'
def Gd (t : Tk) (q : Bool) (m : Mm) (tst a b str : Int32) (Pq : Int32 → Prop) (k p nc np br : Nat) (op ar pl pa : Nat → Int32) (k' p' : Nat) (f : (Nat → Int32) → Int64) : Prop := ∃ st nc' d op' ar' pl' pa' e op'' ar'', (1 ≤ st ∧ st ≤ 2 * (k' - k)) ∧ (∀ N, rX9_readExpression_20 (N + st) (rS t m k nc p np br op ar pl pa) 45 tst a = rX9_readExpression_20 N (rS t m k' nc' p' (np + d) br op' ar' pl' pa') 45 tst b) ∧ IV k' nc' (np + d) pl' pa' ∧ (∀ j, j < np → pl' j = pl j ∧ pa' j = pa j) ∧ (∀ j, np ≤ j → j < np + d → Pq (pl' j)) ∧ Pops t str nc' np d op' ar' pl' pa' e op'' ar'' ∧ (∀ j, j < nc → op'' j = op j ∧ ar'' j = ar j) ∧ e + pot pl np ≤ k' ∧ ∀ W, RSeg op'' ar'' (lvM q) (LM q W) nc e (p' - p) (f W)
def isB (x : Int32) : Prop := 20 ≤ x ∧ x ≤ 24
def nBr (x : Int32) : Prop := x < 31
set_option maxRecDepth 100000 in
theorem isB_n {x : Int32} (h : isB x) : nBr x := Int32.lt_of_le_of_lt h.2 (by decide)
section
variable {t : Tk} {q : Bool} {m : Mm} {tst a b str : Int32} {k p nc np br k1 p1 nc1 np1 br1 k' st : Nat} {op ar pl pa op1 ar1 pl1 pa1 : Nat → Int32}
set_option maxRecDepth 100000 in
theorem Bd_pre (hr : ∀ N, rX9_readExpression_20 (N + st) (rS t m k nc p np br op ar pl pa) 45 tst a = rX9_readExpression_20 N (rS t m k1 nc1 p1 np1 br1 op1 ar1 pl1 pa1) 45 tst b) (hst : st ≤ 2 * (k1 - k)) (hk : k ≤ k1) (hk' : k1 ≤ k') (h : Bd t m tst b k1 p1 nc1 np1 br1 op1 ar1 pl1 pa1 k') : Bd t m tst a k p nc np br op ar pl pa k' := by
  obtain ⟨st2, v, nc', nl', np', no', op', ar', pl', pa', h1, h2, h3⟩ := h
  refine ⟨st + st2, v, nc', nl', np', no', op', ar', pl', pa', by omega, fun N => ?_, h3⟩
  rw [show N + (st + st2) = N + st2 + st by omega, hr, h2]
set_option maxRecDepth 100000 in
theorem Bd_1 {v : Int32} {nc' nl' np' no' : Nat} {op' ar' pl' pa' : Nat → Int32} (hr : ∀ N, rX9_readExpression_20 (N + 1) (rS t m k nc p np br op ar pl pa) 45 tst a = rX9_readExpression_20 N (rS t (mB t m k') k' nc' nl' np' no' op' ar' pl' pa') 45 tst v) (h : IV k' nc' np' pl' pa') : Bd t m tst a k p nc np br op ar pl pa k' := ⟨1, v, nc', nl', np', no', op', ar', pl', pa', by omega, hr, h⟩
set_option maxRecDepth 100000 in
theorem Tp_eq {pl pl' : Nat → Int32} (h : Tp pl np str) (e : ∀ j, j < np → pl' j = pl j) : Tp pl' np str := by
  rcases h with z | z
  · exact Or.inl z
  · by_cases n0 : np = 0
    · exact Or.inl n0
    · exact Or.inr (by rw [e (np - 1) (by omega)]; exact z)
set_option maxRecDepth 100000 in
theorem Tp_up {x : Int32} (h : bndI x < str) : Tp (upd pl np x) (np + 1) str := Or.inr (by rw [Nat.add_sub_cancel, pk_us]; exact h)
set_option maxRecDepth 100000 in
theorem Gd_le {lo hi : Int32} {Pq : Int32 → Prop} {p' : Nat} {f : (Nat → Int32) → Int64} (h : Gd t q m tst a b hi Pq k p nc np br op ar pl pa k' p' f) (hl : lo ≤ hi) : Gd t q m tst a b lo Pq k p nc np br op ar pl pa k' p' f := by
  obtain ⟨st, nc', d, op', ar', pl', pa', e, op'', ar'', h1, h2, h3, h4, h5, h6, h7, h8, h9⟩ := h
  exact ⟨st, nc', d, op', ar', pl', pa', e, op'', ar'', h1, h2, h3, h4, h5, Pops_le h6 hl, h7, h8, h9⟩
set_option maxRecDepth 100000 in
theorem fit_jn {o : Int32} {x y : Int64} (h : jn o x y ≠ BR) : fit (jn o x y) := by
  have hR : ∀ z : Int64, jnR z ≠ BR → fit (jnR z) := by
    intro z hz
    have hz2 : -1000000000 ≤ z ∧ z ≤ 1000000000 := Classical.byContradiction (fun w => hz ((jn_in (o := 0) (b := 0)).mpr w))
    rw [jn_id hz2]
    unfold fit
    obtain ⟨z1, z2⟩ := hz2
    rw [Int64.le_iff_toInt_le] at z1 z2
    have e1 : (-1000000000 : Int64).toInt = -1000000000 := by decide
    have e2 : (1000000000 : Int64).toInt = 1000000000 := by decide
    refine Int64.toInt_inj.mp ?_
    rw [Int32.toInt_toInt64, Int64.toInt_toInt32]
    rw [Int.bmod_eq_of_le (by omega) (by omega)]
  have h01 : ∀ P : Prop, [Decidable P] → fit (if P then (1 : Int64) else 0) := by
    intro P _
    split <;> (unfold fit; decide)
  unfold jn at h ⊢
  by_cases c1 : x = BR
  · rw [if_pos c1] at h; exact absurd rfl h
  · rw [if_neg c1] at h ⊢
    by_cases c2 : y = BR
    · rw [if_pos c2] at h; exact absurd rfl h
    · rw [if_neg c2] at h ⊢
      by_cases c3 : o = 37
      · rw [if_pos c3] at h ⊢
        by_cases c4 : y = 0
        · rw [if_pos c4] at h; exact absurd rfl h
        · rw [if_neg c4] at h ⊢; exact hR _ h
      · rw [if_neg c3] at h ⊢
        by_cases c4 : o = 42
        · rw [if_pos c4] at h ⊢; exact hR _ h
        · rw [if_neg c4] at h ⊢
          by_cases c5 : o = 43
          · rw [if_pos c5] at h ⊢; exact hR _ h
          · rw [if_neg c5] at h ⊢
            by_cases c6 : o = 45
            · rw [if_pos c6] at h ⊢; exact hR _ h
            · rw [if_neg c6] at h ⊢
              by_cases c7 : o = 47
              · rw [if_pos c7] at h ⊢
                by_cases c8 : y = 0
                · rw [if_pos c8] at h; exact absurd rfl h
                · rw [if_neg c8] at h ⊢; exact hR _ h
              · rw [if_neg c7] at h ⊢
                by_cases c8 : o = 60
                · rw [if_pos c8]; exact h01 _
                · rw [if_neg c8]
                  by_cases c9 : o = 61
                  · rw [if_pos c9]; exact h01 _
                  · rw [if_neg c9]; exact h01 _
def sv (f : (Nat → Int32) → Int64) : Prop := ∀ W, f W ≠ BR → fit (f W)
set_option maxRecDepth 100000 in
theorem BR_nfit : ¬ fit BR := by unfold fit; decide
set_option maxRecDepth 100000 in
theorem leaf_fit {W : Nat → Int32} {o w : Int32} : fit (leafV W o w) := by
  unfold leafV
  split <;> exact fit32 _
set_option maxRecDepth 100000 in
theorem leaf_ne {W : Nat → Int32} {o w : Int32} : leafV W o w ≠ BR := fun h => BR_nfit (h ▸ leaf_fit)
set_option maxRecDepth 100000 in
/-- two sums joined -/
theorem Gd_op (hT : TkO t) (hm : LXm t q m) {hi : Int32} {f : (Nat → Int32) → Int64} (hk1 : k1 ≤ tM t) (hkk : k ≤ k1) (hpp : p ≤ p1) (hlo : str ≤ hi)
    (ho : isO (tK t k1)) (hb : bndI (rop (tK t k1)) = str) (hTp : Tp pl np str) (hf : Gd t q m tst a 3 str isB k p nc np br op ar pl pa k1 p1 f) :
    ∃ st nc1 np1 op1 ar1 pl1 pa1, st ≤ 2 * (k1 + 1 - k) ∧ (∀ N, rX9_readExpression_20 (N + st) (rS t m k nc p np br op ar pl pa) 45 tst a = rX9_readExpression_20 N (rS t m (k1 + 1) nc1 p1 np1 br op1 ar1 pl1 pa1) 45 tst 1) ∧ IV (k1 + 1) nc1 np1 pl1 pa1 ∧ np1 = np + 1 ∧ pl1 np = rop (tK t k1) ∧
      ∀ (k2 p2 : Nat) (g : (Nat → Int32) → Int64), (k1 + 1 < k2 → p1 ≤ p2 → k2 ≤ tM t → Gd t q m tst 1 3 hi isB (k1 + 1) p1 nc1 np1 br op1 ar1 pl1 pa1 k2 p2 g → Gd t q m tst a 3 str isB k p nc np br op ar pl pa k2 p2 (fun W => jn (tK t k1) (f W) (g W))) := by
  obtain ⟨st, nc', d, op', ar', pl', pa', e, op'', ar'', h1, h2, h3, h4, h5, h6, h7, h8, h9⟩ := hf
  have h400 := hT.1
  have kM : k1 < tM t := TkO_lt hT hk1 (by rcases ho with w | w | w | w | w <;> rw [w] <;> decide)
  have jJ : isJ (tK t k1) := by rcases ho with w | w | w | w | w <;> rw [w] <;> decide
  have rB : isB (rop (tK t k1)) := by unfold isB; rcases ho with w | w | w | w | w <;> rw [w] <;> decide
  have n29 : ¬ rop (tK t k1) = 29 := by rcases ho with w | w | w | w | w <;> rw [w] <;> decide
  have n30 : ¬ rop (tK t k1) = 30 := by rcases ho with w | w | w | w | w <;> rw [w] <;> decide
  have hn := h3.1
  have e0 : pot pl' np = pot pl np := pot_eq np (fun j hj => (h4 j hj).1)
  refine ⟨st + 1, e, np + 1, op'', ar'', upd pl' np (rop (tK t k1)), upd pa' np 0, by omega, fun N => ?_, ?_, rfl, pk_us, ?_⟩
  · rw [show N + (st + 1) = N + 1 + st by omega, h2, R_3 hm (b_op hT hm hk1 ho hb h6 (by omega) (Tp_eq hTp (fun j hj => (h4 j hj).1)) rfl (by omega))]
  · refine IV_push (y := 0) ⟨by omega, by rw [e0]; omega, fun j hj => ?_⟩ (by decide)
    exact h3.2.2 j (by omega)
  · intro k2 p2 g hk2 hp2 hkM hg
    obtain ⟨st2, nc2, d2, op2, ar2, pl2, pa2, e2, op3, ar3, g1, g2, g3, g4, g5, g6, g7, g8, g9⟩ := hg
    have e1 : pot (upd pl' np (rop (tK t k1))) (np + 1) = pot pl np + 1 := by rw [pot_s, pot_upd, pk_us, if_neg (fun w => w.elim n29 n30), e0]
    rw [e1] at g8
    have plnp : pl2 np = rop (tK t k1) := by rw [(g4 np (by omega)).1, pk_us]
    have hn2 := g3.1
    have ee : e < e2 := (g9 (fun _ => 0)).1
    have ne : nc < e := (h9 (fun _ => 0)).1
    refine ⟨st + 1 + st2, nc2, 1 + d2, op2, ar2, pl2, pa2, e2 + 1, upd op3 e2 (rop (tK t k1)), upd ar3 e2 0, by omega, fun N => ?_, ?_, fun j hj => ?_, fun j j1 j2 => ?_, ?_, fun j hj => ?_, by omega, fun W => ?_⟩
    · rw [show N + (st + 1 + st2) = N + st2 + 1 + st by omega, h2, R_3 hm (b_op hT hm hk1 ho hb h6 (by omega) (Tp_eq hTp (fun j hj => (h4 j hj).1)) rfl (by omega)), g2, show np + 1 + d2 = np + (1 + d2) by omega]
    · rw [show np + (1 + d2) = np + 1 + d2 by omega]; exact g3
    · have x1 := g4 j (by omega)
      rw [pk_un (by omega), pk_un (by omega)] at x1
      exact ⟨x1.1.trans (h4 j hj).1, x1.2.trans (h4 j hj).2⟩
    · by_cases z : j = np
      · rw [z, plnp]; exact rB
      · exact g5 j (by omega) (by omega)
    · have P1 := Pops_1 (t := t) (str := str) (np := np) (nc := e2) (op := op3) (ar := ar3) (pl := pl2) (pa := pa2) (by omega) (by omega) (by rw [plnp, hb]; exact Int32.lt_irrefl) (by rw [plnp]; exact n29) (by rw [plnp]; exact n30)
      rw [plnp] at P1
      exact Pops_trans (Pops_le g6 hlo) P1
    · rw [pk_un (by omega), pk_un (by omega)]
      exact ⟨(g7 j (by omega)).1.trans (h7 j hj).1, (g7 j (by omega)).2.trans (h7 j hj).2⟩
    · have R1 := RSeg_eq (op' := upd op3 e2 (rop (tK t k1))) (ar' := upd ar3 e2 0) (h9 W) (fun i i1 i2 => by rw [pk_un (by omega), pk_un (by omega)]; exact g7 i i2)
      have R2 := RSeg_eq (op' := upd op3 e2 (rop (tK t k1))) (ar' := upd ar3 e2 0) (g9 W) (fun i i1 i2 => by rw [pk_un (by omega), pk_un (by omega)]; exact ⟨rfl, rfl⟩)
      have R3 := RSeg_bin R1 R2 jJ (by rw [pk_us])
      rw [show p1 - p + (p2 - p1) = p2 - p by omega] at R3
      exact R3
end
