/-! ===== tests: what is joined, what is turned round ===== -/
def tvf (f : (Nat → Int32) → Int64) : Prop := ∀ W, tv (f W)
set_option maxRecDepth 100000 in
theorem tv_nt {v : Int64} (h : tv v) : tv (nt v) := by
  rcases h with rfl | rfl | rfl
  · exact Or.inr (Or.inl (by decide))
  · exact Or.inl (by decide)
  · exact Or.inr (Or.inr (by decide))
set_option maxRecDepth 100000 in
theorem nt_nt {v : Int64} (h : tv v) : nt (nt v) = v := by
  rcases h with rfl | rfl | rfl <;> decide
set_option maxRecDepth 100000 in
theorem tv_n {v : Int64} (h : tv v) (hv : v ≠ BR) : 1 - v ≠ BR := by
  rcases h with rfl | rfl | rfl
  · decide
  · decide
  · exact absurd rfl hv
def ntN : Nat → Int64 → Int64
  | 0, v => v
  | j + 1, v => ntN j (nt v)
set_option maxRecDepth 100000 in
theorem ntN_s (j : Nat) (v : Int64) : ntN (j + 1) v = ntN j (nt v) := rfl
set_option maxRecDepth 100000 in
theorem ntN_is : ∀ (j : Nat) (v : Int64), tv v → ntN j v = if j % 2 = 1 then nt v else v
  | 0, _, _ => rfl
  | j + 1, v, h => by
    rw [ntN_s, ntN_is j (nt v) (tv_nt h)]
    by_cases z : j % 2 = 1
    · rw [if_pos z, if_neg (by omega), nt_nt h]
    · rw [if_neg z, if_pos (by omega)]
set_option maxRecDepth 100000 in
theorem tv_ite {v : Int64} {P : Prop} [Decidable P] (h : tv v) : tv (if P then nt v else v) := by
  split
  · exact tv_nt h
  · exact h
set_option maxRecDepth 100000 in
theorem tv_and {a b : Int64} (ha : tv a) (hb : tv b) : tv (jAnd a b) := by
  unfold jAnd
  split
  · exact hb
  · exact ha
set_option maxRecDepth 100000 in
theorem tv_or {a b : Int64} (ha : tv a) (hb : tv b) : tv (jOr a b) := by
  unfold jOr
  split
  · exact hb
  · exact ha
set_option maxRecDepth 100000 in
theorem tv_cmp {o : Int32} {a b : Int64} (ho : isC o) : tv (jn o a b) := by
  unfold jn
  by_cases c1 : a = BR
  · rw [if_pos c1]; exact Or.inr (Or.inr rfl)
  · rw [if_neg c1]
    by_cases c2 : b = BR
    · rw [if_pos c2]; exact Or.inr (Or.inr rfl)
    · rw [if_neg c2]
      have h01 : ∀ P : Prop, [Decidable P] → tv (if P then (1 : Int64) else 0) := by
        intro P _
        split
        · exact Or.inr (Or.inl rfl)
        · exact Or.inl rfl
      rcases ho with rfl | rfl | rfl
      · rw [if_neg (by decide), if_neg (by decide), if_neg (by decide), if_neg (by decide), if_neg (by decide), if_pos rfl]; exact h01 _
      · rw [if_neg (by decide), if_neg (by decide), if_neg (by decide), if_neg (by decide), if_neg (by decide), if_neg (by decide), if_neg (by decide)]; exact h01 _
      · rw [if_neg (by decide), if_neg (by decide), if_neg (by decide), if_neg (by decide), if_neg (by decide), if_neg (by decide), if_pos rfl]; exact h01 _
set_option maxRecDepth 100000 in
theorem mod2 : ∀ n, n < 401 → nI n - nI n / 2 * 2 = nI (n % 2) := by decide +kernel
set_option maxRecDepth 100000 in
theorem bnd_lt4 {x : Int32} (h : bndI x < 4) : ¬ (20 ≤ x ∧ x ≤ 27) := by
  intro w
  obtain ⟨j, hj, e⟩ := nIof (x := x) (n := 27) 27 (by decide) ⟨Int32.le_trans (show (0 : Int32) ≤ 20 by decide) w.1, w.2⟩
  have h20 : 20 ≤ j := by
    have w1 := w.1
    rw [e] at w1
    exact (nI_leI (a := 20) (by decide) (by omega)).mp w1
  have all : ∀ j, j < 28 → 20 ≤ j → ¬ bndI (nI j) < 4 := by decide +kernel
  rw [e] at h
  exact all j (by omega) h20 h
section
variable {t : Tk} {q : Bool} {m : Mm} {k p nc np br k1 p1 : Nat} {op ar pl pa : Nat → Int32}
set_option maxRecDepth 100000 in
theorem NotP {lv : Int32 → Int32 → Prop} {LL : (Nat → Int32) → Int32 → Int32 → Int64} {pp : Nat} : ∀ (j e : Nat) (op ar : Nat → Int32) (f : (Nat → Int32) → Int64), (∀ i, np ≤ i → i < np + j → pl i = 28) → np + j ≤ 400 → e + j ≤ 400 → nc < e → tvf f → (∀ W, RSeg op ar lv (LL W) nc e pp (f W)) → ∃ op' ar', Pops t 3 e np j op ar pl pa (e + j) op' ar' ∧ (∀ i, i < nc → op' i = op i ∧ ar' i = ar i) ∧ ∀ W, RSeg op' ar' lv (LL W) nc (e + j) pp (ntN j (f W)) := by
  intro j
  induction j with
  | zero =>
    intro e op ar f _ _ _ _ _ hR
    exact ⟨op, ar, Pops_0, fun _ _ => ⟨rfl, rfl⟩, hR⟩
  | succ j ih =>
    intro e op ar f hp hn he hnc hv hR
    have p28 := hp (np + j) (by omega) (by omega)
    obtain ⟨op', ar', a1, a2, a3⟩ := ih (e + 1) (upd op e 28) (upd ar e 0) (fun W => nt (f W)) (fun i i1 i2 => hp i i1 (by omega)) (by omega) (by omega) (by omega) (fun W => tv_nt (hv W)) (fun W => by
      have R1 := RSeg_eq (op' := upd op e 28) (ar' := upd ar e 0) (hR W) (fun i i1 i2 => by rw [pk_un (by omega), pk_un (by omega)]; exact ⟨rfl, rfl⟩)
      exact RSeg_not R1 (by rw [pk_us]) (tv_n (hv W)))
    have P1 := Pops_1 (t := t) (str := 3) (np := np + j) (nc := e) (op := op) (ar := ar) (pl := pl) (pa := pa) (by omega) (by omega) (by rw [p28]; decide) (by rw [p28]; decide) (by rw [p28]; decide)
    rw [p28] at P1
    refine ⟨op', ar', ?_, fun i hi => ?_, fun W => ?_⟩
    · have := Pops_trans P1 a1
      rw [show e + 1 + j = e + (j + 1) by omega] at this
      exact this
    · have := a2 i hi
      rw [pk_un (by omega), pk_un (by omega)] at this
      exact this
    · have := a3 W
      rw [show e + 1 + j = e + (j + 1) by omega] at this
      exact this
def jJo (x : Int32) (a b : Int64) : Int64 := if x = 29 then jAnd a b else jOr a b
set_option maxRecDepth 100000 in
/-- two tests joined -/
theorem Gd_j (hT : TkO t) (hm : LXm t q m) {str hi jj : Int32} {f : (Nat → Int32) → Int64} (hk1 : k1 ≤ tM t) (hkk : k ≤ k1) (hpp : p ≤ p1) (hlo : str ≤ hi)
    (hx : (tK t k1 = 269 ∧ jj = 30 ∧ str = 1) ∨ (tK t k1 = 270 ∧ jj = 29 ∧ str = 2)) (hTp : Tp pl np str) (hv : tvf f) (hf : Gd t q m 1 0 2 str nBr k p nc np br op ar pl pa k1 p1 f) :
    ∃ st nc1 np1 op1 ar1 pl1 pa1, st ≤ 2 * (k1 + 1 - k) ∧ (∀ N, rX9_readExpression_20 (N + st) (rS t m k nc p np br op ar pl pa) 45 1 0 = rX9_readExpression_20 N (rS t m (k1 + 1) nc1 p1 np1 br op1 ar1 pl1 pa1) 45 1 0) ∧ IV (k1 + 1) nc1 np1 pl1 pa1 ∧ np1 = np + 1 ∧ pl1 np = jj ∧ (∀ i, i < np → pl1 i = pl i) ∧
      ∀ (k2 p2 : Nat) (g : (Nat → Int32) → Int64), (k1 + 1 < k2 → p1 ≤ p2 → k2 ≤ tM t → Gd t q m 1 0 2 hi nBr (k1 + 1) p1 nc1 np1 br op1 ar1 pl1 pa1 k2 p2 g → Gd t q m 1 0 2 str nBr k p nc np br op ar pl pa k2 p2 (fun W => jJo jj (f W) (g W))) := by
  obtain ⟨st, nc', d, op', ar', pl', pa', e, op'', ar'', h1, h2, h3, h4, h5, h6, h7, h8, h9⟩ := hf
  have h400 := hT.1
  have kM : k1 < tM t := TkO_lt hT hk1 (by rcases hx with ⟨w, -⟩ | ⟨w, -⟩ <;> rw [w] <;> decide)
  have jj2 : jj = 29 ∨ jj = 30 := by
    rcases hx with ⟨-, w, -⟩ | ⟨-, w, -⟩
    · exact Or.inr w
    · exact Or.inl w
  have jn31 : nBr jj := by unfold nBr; rcases jj2 with w | w <;> rw [w] <;> decide
  have bj : ¬ bndI jj < str := by rcases hx with ⟨-, w, w2⟩ | ⟨-, w, w2⟩ <;> rw [w, w2] <;> decide
  have hn := h3.1
  have e0 : pot pl' np = pot pl np := pot_eq np (fun j hj => (h4 j hj).1)
  have ne : nc < e := (h9 (fun _ => 0)).1
  have step : ∀ N, rX9_readExpression_20 (N + 1) (rS t m k1 nc' p1 (np + d) br op' ar' pl' pa') 45 1 2 = rX9_readExpression_20 N (rS t m (k1 + 1) (e + 1) p1 (np + 1) br (upd op'' e jj) (upd ar'' e 0) (upd pl' np jj) (upd pa' np (nI e))) 45 1 0 := by
    intro N
    refine R_2 hm ?_
    rcases hx with ⟨w1, w2, w3⟩ | ⟨w1, w2, w3⟩
    · subst w2 w3
      exact t_or hT hm hk1 w1 h6 (by omega) (Tp_eq hTp (fun j hj => (h4 j hj).1)) rfl (by omega) (by omega)
    · subst w2 w3
      exact t_and hT hm hk1 w1 h6 (by omega) (Tp_eq hTp (fun j hj => (h4 j hj).1)) rfl (by omega) (by omega)
  refine ⟨st + 1, e + 1, np + 1, upd op'' e jj, upd ar'' e 0, upd pl' np jj, upd pa' np (nI e), by omega, fun N => ?_, ?_, rfl, pk_us, fun i hi => ?_, ?_⟩
  · rw [show N + (st + 1) = N + 1 + st by omega, h2, step]
  · refine IV_pushj ⟨by omega, by rw [e0]; omega, fun j hj => ?_⟩ jj2 (by omega)
    exact h3.2.2 j (by omega)
  · rw [pk_un (by omega)]; exact (h4 i hi).1
  · intro k2 p2 g hk2 hp2 hkM hg
    obtain ⟨st2, nc2, d2, op2, ar2, pl2, pa2, e2, op3, ar3, g1, g2, g3, g4, g5, g6, g7, g8, g9⟩ := hg
    have e1 : pot (upd pl' np jj) (np + 1) = pot pl np := by rw [pot_s, pot_upd, pk_us, if_pos jj2, e0]; rfl
    rw [e1] at g8
    have plnp : pl2 np = jj := by rw [(g4 np (by omega)).1, pk_us]
    have panp : pa2 np = nI e := by rw [(g4 np (by omega)).2, pk_us]
    have hn2 := g3.1
    have ee : e + 1 < e2 := (g9 (fun _ => 0)).1
    refine ⟨st + 1 + st2, nc2, 1 + d2, op2, ar2, pl2, pa2, e2, op3, upd ar3 e (nI e2), by omega, fun N => ?_, ?_, fun j hj => ?_, fun j j1 j2 => ?_, ?_, fun j hj => ?_, by omega, fun W => ?_⟩
    · rw [show N + (st + 1 + st2) = N + st2 + 1 + st by omega, h2, step, g2, show np + 1 + d2 = np + (1 + d2) by omega]
    · rw [show np + (1 + d2) = np + 1 + d2 by omega]; exact g3
    · have x1 := g4 j (by omega)
      rw [pk_un (by omega), pk_un (by omega)] at x1
      exact ⟨x1.1.trans (h4 j hj).1, x1.2.trans (h4 j hj).2⟩
    · by_cases z : j = np
      · rw [z, plnp]; exact jn31
      · exact g5 j (by omega) (by omega)
    · have P1 := Pops_j (t := t) (str := str) (np := np) (nc := e2) (op := op3) (ar := ar3) (pl := pl2) (pa := pa2) (by omega) (y := e) (by rw [plnp]; exact bj) (by rw [plnp]; exact jj2) panp (by omega)
      exact Pops_trans (Pops_le g6 hlo) P1
    · have x := g7 j (by omega)
      rw [pk_un (by omega), pk_un (by omega)] at x
      rw [pk_un (by omega)]
      exact ⟨x.1.trans (h7 j hj).1, x.2.trans (h7 j hj).2⟩
    · have R1 := RSeg_eq (op' := op3) (ar' := upd ar3 e (nI e2)) (h9 W) (fun i i1 i2 => by
        have x := g7 i (by omega)
        rw [pk_un (by omega), pk_un (by omega)] at x
        rw [pk_un (by omega)]; exact x)
      have R2 := RSeg_eq (op' := op3) (ar' := upd ar3 e (nI e2)) (g9 W) (fun i i1 i2 => by rw [pk_un (by omega)]; exact ⟨rfl, rfl⟩)
      have oe : op3 e = jj := by rw [(g7 e (by omega)).1, pk_us]
      show RSeg op3 (upd ar3 e (nI e2)) (lvM q) (LM q W) nc e2 (p2 - p) (if jj = 29 then jAnd (f W) (g W) else jOr (f W) (g W))
      rcases jj2 with w | w
      · rw [if_pos w]
        have R3 := RSeg_and R1 (hv W) R2 (by rw [oe, w]) (by rw [pk_us])
        rw [show p1 - p + (p2 - p1) = p2 - p by omega] at R3
        exact R3
      · rw [if_neg (by rw [w]; decide)]
        have R3 := RSeg_or R1 (hv W) R2 (by rw [oe, w]) (by rw [pk_us])
        rw [show p1 - p + (p2 - p1) = p2 - p by omega] at R3
        exact R3
end
