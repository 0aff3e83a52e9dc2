/-! ===== a part that is no bracket, by both ===== -/
def pot (pl : Nat → Int32) : Nat → Nat
  | 0 => 0
  | j + 1 => pot pl j + if pl j = 29 ∨ pl j = 30 then 0 else 1
set_option maxRecDepth 100000 in
theorem pot_s (pl : Nat → Int32) (j : Nat) : pot pl (j + 1) = pot pl j + if pl j = 29 ∨ pl j = 30 then 0 else 1 := rfl
def IV (k nc np : Nat) (pl pa : Nat → Int32) : Prop := np ≤ k ∧ nc + pot pl np ≤ k ∧ ∀ j, j < np → ∃ x, x < 400 ∧ pa j = nI x
section
variable {t : Tk} {q : Bool} {c m : Mm} {k p L nc nl np no : Nat} {cd wt op ar pl pa : Nat → Int32} {rT rS_ : Mm → Nat → Int32 → Int32 → Option (Int32 × Mm)} {rP rA : Mm → Nat → Int32 → Option (Int32 × Mm)}
set_option maxRecDepth 100000 in
theorem c_134 (hc : hSh c) (hL : L < 401) {w : Int32} : bX4_readPart_134 rT rS_ rP rA (cS c k p L cd wt) 19 w = some (if w = -1 then 0 else 1, cS c k p (L + 1) (upd cd L 287) (upd wt L w)) := by
  have hs : hSh (cS c k p L cd wt) := hc
  unfold bX4_readPart_134 bX4_readPart_156
  rw [oK_of (sh19 hs), rf19_7 hs, oNn_of, oR_of (sh23 hs), c_put hc hL, oB_of]
  by_cases z : w = -1
  · rw [if_pos z, if_pos z, oZ0]
  · rw [if_neg z, if_neg z, oZ1]
set_option maxRecDepth 100000 in
theorem c_lwY (hT : TkO t) (hc : LXc t q c) (hk : k ≤ tM t) {j : Nat} (hj : j < 10) (h : tK t k = nI (272 + j)) : fX4_readLawWord (cS c k p L cd wt) 19 = some (nI j, cS c (k + 1) p L cd wt) := by
  have hs : hSh (cS c k p L cd wt) := hc.1
  have h4 := hT.1
  unfold fX4_readLawWord
  rw [oK_of (sh19 hs), rf19_0 hs, oNn_of, oK_of (sh19 hs), oI_of, cS_4, oA_k (sh20 hs) (by omega) (by decide), oI_of, clm (by omega), cS_K hc hk, h, if_neg (show ¬ nI (272 + j) < 272 from nI_nlt (b := 272) (by omega) (by omega)), if_pos (show nI (272 + j) ≤ 281 from nI_le (b := 281) (by omega) (by decide)), oK_of (sh19 hs), oI_of, nI_1, oK_of (sh19 hs), oU_of, cS_here, show nI (272 + j) - 272 = nI j from (nI_sub (a := 272 + j) (b := 272) (by omega)).trans (by rw [Nat.add_sub_cancel_left])]
set_option maxRecDepth 100000 in
theorem c_lwN (hT : TkO t) (hc : LXc t q c) (hk : k ≤ tM t) (h : ∀ j, j < 10 → ¬ tK t k = nI (272 + j)) : fX4_readLawWord (cS c k p L cd wt) 19 = some (-1, cS c k p L cd wt) := by
  have hs : hSh (cS c k p L cd wt) := hc.1
  have h4 := hT.1
  unfold fX4_readLawWord
  rw [oK_of (sh19 hs), rf19_0 hs, oNn_of, oK_of (sh19 hs), oI_of, cS_4, oA_k (sh20 hs) (by omega) (by decide), oI_of, clm (by omega), cS_K hc hk]
  by_cases z : tK t k < 272
  · rw [if_pos z]
  · rw [if_neg z]
    by_cases y : tK t k ≤ 281
    · obtain ⟨x, hx, e⟩ := nIof (x := tK t k) (n := 281) 281 (by decide) ⟨Int32.le_trans (show (0 : Int32) ≤ 272 by decide) (Int32.not_lt.mp z), y⟩
      have x2 : 272 ≤ x := by
        rw [e] at z
        exact Nat.le_of_not_lt (fun w => z (nI_lt (b := 272) w (by decide)))
      exact absurd (e.trans (by rw [show 272 + (x - 272) = x by omega])) (h (x - 272) (by omega))
    · rw [if_neg y]
set_option maxRecDepth 100000 in
theorem c_ow1 (hT : TkO t) (hc : LXc t q c) (hk : k ≤ tM t) {j : Nat} (hj : j < 3) (h : tK t k = nI (256 + ows.getD j 0)) : fX4_readOrderWord (cS c k p L cd wt) 19 = some (nI j, cS c (k + 1) p L cd wt) := by
  have hs : hSh (cS c k p L cd wt) := hc.1
  have h4 := hT.1
  have go : ∀ x : Int32, bX4_readOrderWord_31 (cS c k p L cd wt) 19 x = some (if x = 280 then 0 else if x = 282 then 1 else 2, cS c (k + 1) p L cd wt) := by
    intro x
    unfold bX4_readOrderWord_31 bX4_readOrderWord_64
    rw [oK_of (sh19 hs), oI_of, cS_4, nI_1, oK_of (sh19 hs), oU_of, cS_here]
    by_cases z : x = 280
    · rw [if_pos z, if_pos z]
    · rw [if_neg z, if_neg z]
      by_cases y : x = 282
      · rw [if_pos y, if_pos y]
      · rw [if_neg y, if_neg y]
  unfold fX4_readOrderWord
  rw [oK_of (sh19 hs), rf19_0 hs, oNn_of, oK_of (sh19 hs), oI_of, cS_4, oA_k (sh20 hs) (by omega) (by decide), oI_of, clm (by omega), cS_K hc hk, h, go]
  rcases (show j = 0 ∨ j = 1 ∨ j = 2 by omega) with rfl | rfl | rfl
  · rw [if_pos (by decide)]; rfl
  · rw [if_neg (by decide), if_pos (by decide)]; rfl
  · rw [if_neg (by decide), if_neg (by decide), if_pos (by decide)]; rfl
def owB (j : Nat) : Nat := if j = 3 then 3 else if j = 4 then 11 else 13
def owM (j : Nat) : Nat := if j = 3 then 7 else 1
set_option maxRecDepth 100000 in
theorem c_ow2 (hT : TkO t) (hc : LXc t q c) (hk : k + 1 ≤ tM t) {j : Nat} (hj : 3 ≤ j) (hj6 : j < 6) (h : tK t k = nI (256 + ows.getD j 0)) : fX4_readOrderWord (cS c k p L cd wt) 19 = if tK t (k + 1) = 285 ∧ tV t (k + 1) ≤ nI (owM j) then some (tV t (k + 1) + nI (owB j), cS c (k + 2) p L cd wt) else some (-1, cS c (k + 1) p L cd wt) := by
  have hs : ∀ k, hSh (cS c k p L cd wt) := fun _ => hc.1
  have h4 := hT.1
  have go : ∀ x s0 : Int32, bX4_readOrderWord_121 (cS c (k + 1) p L cd wt) 19 x (tV t (k + 1)) s0 = if tK t (k + 1) = 285 ∧ tV t (k + 1) ≤ s0 then some (tV t (k + 1) + (if x = 274 then 3 else if x = 277 then 11 else 13), cS c (k + 2) p L cd wt) else some (-1, cS c (k + 1) p L cd wt) := by
    intro x s0
    unfold bX4_readOrderWord_121 bX4_readOrderWord_180
    rw [oK_of (sh19 (hs _)), rf19_0 (hs _), oNn_of, oK_of (sh19 (hs _)), oI_of, cS_4, oA_k (sh20 (hs _)) (by omega) (by decide), oI_of, clm (by omega), cS_K hc hk]
    by_cases a : tK t (k + 1) = 285
    · rw [if_pos a]
      by_cases b : tV t (k + 1) ≤ s0
      · rw [if_pos b, if_pos ⟨a, b⟩, oK_of (sh19 (hs _)), oI_of, nI_1, oK_of (sh19 (hs _)), oU_of, cS_here]
        by_cases z : x = 274
        · rw [if_pos z, if_pos z]
        · rw [if_neg z, if_neg z]
          by_cases y : x = 277
          · rw [if_pos y, if_pos y]
          · rw [if_neg y, if_neg y]
      · rw [if_neg b, if_neg (fun w => b w.2)]
    · rw [if_neg a, if_neg (fun w => a w.1)]
  have go8 : ∀ x : Int32, bX4_readOrderWord_88 (cS c k p L cd wt) 19 x = bX4_readOrderWord_121 (cS c (k + 1) p L cd wt) 19 x (tV t (k + 1)) (if x = 274 then 7 else 1) := by
    intro x
    unfold bX4_readOrderWord_88
    rw [oK_of (sh19 (hs _)), oI_of, cS_4, nI_1, oK_of (sh19 (hs _)), oU_of, cS_here, oK_of (sh19 (hs _)), rf19_1 (hs _), oNn_of, oK_of (sh19 (hs _)), oI_of, cS_4, oA_k (sh21 (hs _)) (by omega) (by decide), oI_of, clm (by omega), cS_V hc hk]
    by_cases z : x = 274
    · rw [if_pos z, if_pos z]
    · rw [if_neg z, if_neg z]
  unfold fX4_readOrderWord
  rw [oK_of (sh19 (hs _)), rf19_0 (hs _), oNn_of, oK_of (sh19 (hs _)), oI_of, cS_4, oA_k (sh20 (hs _)) (by omega) (by decide), oI_of, clm (by omega), cS_K hc (show k ≤ tM t by omega), h]
  rcases (show j = 3 ∨ j = 4 ∨ j = 5 by omega) with rfl | rfl | rfl
  · rw [if_neg (by decide), if_neg (by decide), if_neg (by decide), if_pos (by decide), go8, go]; rfl
  · rw [if_neg (by decide), if_neg (by decide), if_neg (by decide), if_neg (by decide), if_pos (by decide), go8, go]; rfl
  · rw [if_neg (by decide), if_neg (by decide), if_neg (by decide), if_neg (by decide), if_neg (by decide), if_pos (by decide), go8, go]; rfl
set_option maxRecDepth 100000 in
theorem c_owN (hT : TkO t) (hc : LXc t q c) (hk : k ≤ tM t) (h : ∀ j, j < 6 → ¬ tK t k = nI (256 + ows.getD j 0)) : fX4_readOrderWord (cS c k p L cd wt) 19 = some (-1, cS c k p L cd wt) := by
  have hs : hSh (cS c k p L cd wt) := hc.1
  have h4 := hT.1
  unfold fX4_readOrderWord
  rw [oK_of (sh19 hs), rf19_0 hs, oNn_of, oK_of (sh19 hs), oI_of, cS_4, oA_k (sh20 hs) (by omega) (by decide), oI_of, clm (by omega), cS_K hc hk, if_neg (show ¬ tK t k = 280 from h 0 (by decide)), if_neg (show ¬ tK t k = 282 from h 1 (by decide)), if_neg (show ¬ tK t k = 283 from h 2 (by decide)), if_neg (show ¬ tK t k = 274 from h 3 (by decide)), if_neg (show ¬ tK t k = 277 from h 4 (by decide)), if_neg (show ¬ tK t k = 278 from h 5 (by decide))]
set_option maxRecDepth 100000 in
/-- the class's part, when it is no bracket -/
theorem c_partFull (hT : TkO t) (hc : LXc t q c) (hk : k ≤ tM t) (h91 : ¬ tK t k = 91) (hp : 50 ≤ p) (hp2 : p ≤ 1000) {x : Int32} : fgX4_readPart rT rS_ rP rA (cS c k p L cd wt) 19 x = some (0, cS c k p L cd wt) := by
  have hs : hSh (cS c k p L cd wt) := hc.1
  have h4 := hT.1
  unfold fgX4_readPart
  rw [oK_of (sh19 hs), rf19_0 hs, oNn_of, oK_of (sh19 hs), oI_of, cS_4, oA_k (sh20 hs) (by omega) (by decide), oI_of, clm (by omega), cS_K hc hk, if_neg h91, oK_of (sh19 hs), oI_of, cS_5, if_neg (show ¬ nI p < 50 from nI_nlt (b := 50) hp (by omega)), oZ0]
set_option maxRecDepth 100000 in
theorem c_part0 (hT : TkO t) (hc : LXc t q c) (hk : k ≤ tM t) (h91 : ¬ tK t k = 91) (hp : p < 50) (hL : L < 401) {x : Int32} : fgX4_readPart rT rS_ rP rA (cS c k p L cd wt) 19 x = if tK t k = 285 ∧ tV t k ≤ 1000 then some (1, cS c (k + 1) (p + 1) (L + 1) (upd cd L 285) (upd wt L (tV t k))) else bX4_readPart_116 rT rS_ rP rA (cS c k (p + 1) L cd wt) 19 := by
  have hs : ∀ k p, hSh (cS c k p L cd wt) := fun _ _ => hc.1
  have h4 := hT.1
  unfold fgX4_readPart
  rw [oK_of (sh19 (hs _ _)), rf19_0 (hs _ _), oNn_of, oK_of (sh19 (hs _ _)), oI_of, cS_4, oA_k (sh20 (hs _ _)) (by omega) (by decide), oI_of, clm (by omega), cS_K hc hk, if_neg h91, oK_of (sh19 (hs _ _)), oI_of, cS_5, if_pos (show nI p < 50 from nI_lt (b := 50) hp (by decide)), oK_of (sh19 (hs _ _)), oI_of, nI_1, oK_of (sh19 (hs _ _)), oU_of, cS_parts, oK_of (sh19 (hs _ _)), rf19_1 (hs _ _), oNn_of, oK_of (sh19 (hs _ _)), oI_of, cS_4, oA_k (sh21 (hs _ _)) (by omega) (by decide), oI_of, clm (by omega), cS_V hc hk]
  by_cases z : 1000 < tV t k
  · rw [if_pos z, if_neg (fun w => absurd w.2 (Int32.not_le.mpr z))]
  · rw [if_neg z, oR_of (sh19 (hs _ _))]
    by_cases y : tK t k = 285
    · rw [c_skipY hT hc hk (by decide) y, oB_of, if_neg (by decide), oK_of (sh19 (hs _ _)), rf19_7 (hs _ _), oNn_of, oR_of (sh23 (hs _ _)), c_put hc.1 hL, oB_of, oZ1, if_pos ⟨y, Int32.not_lt.mp z⟩]
    · rw [c_skipN hT hc hk (by decide) y, oB_of, if_pos rfl, if_neg (fun w => y w.1)]
set_option maxRecDepth 100000 in
theorem c_116L (hc : LXc t false c) {x : Option (Int32 × Mm)} (h : fX4_readLawWord (cS c k p L cd wt) 19 = x) : bX4_readPart_116 rT rS_ rP rA (cS c k p L cd wt) 19 = oB x (fun v u => bX4_readPart_134 rT rS_ rP rA u 19 v) := by
  have hs : hSh (cS c k p L cd wt) := hc.1
  unfold bX4_readPart_116
  rw [oK_of (sh19 hs), oI_of, cS_6 hc, if_neg (by decide), oR_of (sh19 hs), h]
set_option maxRecDepth 100000 in
theorem c_116O (hc : LXc t true c) {x : Option (Int32 × Mm)} (h : fX4_readOrderWord (cS c k p L cd wt) 19 = x) : bX4_readPart_116 rT rS_ rP rA (cS c k p L cd wt) 19 = oB x (fun v u => bX4_readPart_134 rT rS_ rP rA u 19 v) := by
  have hs : hSh (cS c k p L cd wt) := hc.1
  unfold bX4_readPart_116
  rw [oK_of (sh19 hs), oI_of, cS_6 hc, if_pos (by decide), oR_of (sh19 hs), h]
/-! the reference's part -/
set_option maxRecDepth 100000 in
theorem r_leaf1 (hm : LXm t q m) (hk : k < tM t) (hl : nl < 50) (hn : nc < 400) {o a : Int32} : fX9_leaf (rS t m k nc nl np no op ar pl pa) 45 1 o a = some ((), rS t m (k + 1) (nc + 1) (nl + 1) np no (upd op nc o) (upd ar nc a) pl pa) := by
  have hs : ∀ k nc nl op ar, hSh (rS t m k nc nl np no op ar pl pa) := fun _ _ _ _ _ => hm.1
  unfold fX9_leaf bX9_leaf_19
  rw [if_neg (by decide), oK_of (sh45 (hs _ _ _ _ _)), oI_of, rS_26, if_neg (show ¬ (50 : Int32) ≤ nI nl from nI_ge (b := 50) hl (by decide)), oR_of (sh45 (hs _ _ _ _ _)), r_must1 hm hk (by decide), oB_of, oK_of (sh45 (hs _ _ _ _ _)), oI_of, rS_19 hm.2.2.1, if_pos rfl, oR_of (sh45 (hs _ _ _ _ _)), r_emit hm.1 hn, oB_of, oK_of (sh45 (hs _ _ _ _ _)), oI_of, rS_26, nI_1, oK_of (sh45 (hs _ _ _ _ _)), oU_of, rS_nl]
set_option maxRecDepth 100000 in
theorem r_leaf0 (hm : LXm t q m) {x : Int32} (h : x = 0 ∨ (50 ≤ nl ∧ nl ≤ 1000)) {o a : Int32} : fX9_leaf (rS t m k nc nl np no op ar pl pa) 45 x o a = some ((), rS t (mB t m k) k nc nl np no op ar pl pa) := by
  have hs : hSh (rS t m k nc nl np no op ar pl pa) := hm.1
  have hB : hSh (rS t (mB t m k) k nc nl np no op ar pl pa) := hm.1
  have go : bX9_leaf_18 (rS t m k nc nl np no op ar pl pa) 45 o a 45 = some ((), rS t (mB t m k) k nc nl np no op ar pl pa) := by
    unfold bX9_leaf_18 bX9_leaf_19
    rw [oR_of (sh45 hs), r_must0 hm rfl, oB_of, oK_of (sh45 hB), oI_of, rS_19B, if_neg (by decide)]
  unfold fX9_leaf
  by_cases z : x = 0
  · rw [if_pos z, go]
  · have h2 := h.resolve_left z
    rw [if_neg z, oK_of (sh45 hs), oI_of, rS_26, if_pos (show (50 : Int32) ≤ nI nl from nI_le (a := 50) h2.1 (by omega)), go]
set_option maxRecDepth 100000 in
theorem r_99bad (hm : LXm t q m) {its x o a : Int32} (h : x = 0 ∨ (50 ≤ nl ∧ nl ≤ 1000)) : bX9_readPart_99 (rS t m k nc nl np no op ar pl pa) 45 its a o x 45 = some (3, rS t (mB t m k) k nc nl np no op ar pl pa) := by
  have hs : hSh (rS t m k nc nl np no op ar pl pa) := hm.1
  have hB : hSh (rS t (mB t m k) k nc nl np no op ar pl pa) := hm.1
  unfold bX9_readPart_99
  rw [oR_of (sh45 hs), r_leaf0 hm h, oB_of, oK_of (sh45 hB), oI_of]
  by_cases z : mI (rS t (mB t m k) k nc nl np no op ar pl pa) 45 20 = 0
  · rw [if_pos z]
  · rw [if_neg z]
    by_cases y : its < 4
    · rw [if_pos y]
    · rw [if_neg y, oK_of (sh45 hB), oI_of, rS_19B, if_neg (by decide)]
set_option maxRecDepth 100000 in
theorem r_99ok (hm : LXm t q m) (hk : k < tM t) (hl : nl < 50) (hn : nc < 400) {its o a : Int32} (h : q = false ∨ its < 4) : bX9_readPart_99 (rS t m k nc nl np no op ar pl pa) 45 its a o 1 45 = some (3, rS t m (k + 1) (nc + 1) (nl + 1) np no (upd op nc o) (upd ar nc a) pl pa) := by
  have hs : ∀ k nc nl op ar, hSh (rS t m k nc nl np no op ar pl pa) := fun _ _ _ _ _ => hm.1
  unfold bX9_readPart_99
  rw [oR_of (sh45 (hs _ _ _ _ _)), r_leaf1 hm hk hl hn, oB_of, oK_of (sh45 (hs _ _ _ _ _)), oI_of, rS_20 hm]
  by_cases z : (if q = true then (1 : Int32) else 0) = 0
  · rw [if_pos z]
  · rw [if_neg z]
    have hq : q = true := by
      cases q with
      | false => exact absurd rfl z
      | true => rfl
    rw [if_pos (h.resolve_left (by rw [hq]; decide))]
set_option maxRecDepth 100000 in
/-- a number from 0 up to, at its token -/
theorem r_number (hT : TkO t) (hm : LXm t q m) (hk : k ≤ tM t) {hi : Nat} (h7 : hi ≤ 20) {lo : Nat} {l h : Int64} (hl : l = w64 lo) (hh : h = w64 hi) (hlo : lo ≤ 1) :
    (∃ x, lo ≤ x ∧ x ≤ hi ∧ tK t k = 285 ∧ tV t k = nI x ∧ k < tM t ∧ fX9_number (rS t m k nc nl np no op ar pl pa) 45 l h = some (nI x, rS t m (k + 1) nc nl np no op ar pl pa)) ∨
    (¬ (tK t k = 285 ∧ nI lo ≤ tV t k ∧ tV t k ≤ nI hi) ∧ ∃ v, fX9_number (rS t m k nc nl np no op ar pl pa) 45 l h = some (v, rS t (mB t m k) k nc nl np no op ar pl pa)) := by
  have hs : hSh (rS t m k nc nl np no op ar pl pa) := hm.1
  have hN := hT.2.2.2.1 k hk
  have bad : bX9_number_32 (rS t m k nc nl np no op ar pl pa) (Int64.toInt32 (tW t k)) 45 = some (Int64.toInt32 (tW t k), rS t (mB t m k) k nc nl np no op ar pl pa) := by
    unfold bX9_number_32 bX9_number_33
    rw [oR_of (sh45 hs), r_must0 hm rfl, oB_of]
  by_cases z : tK t k = 285
  · have zo : tO t k = 2 := hN.1.mpr z
    have kM : k < tM t := TkO_lt hT hk (by rw [z]; decide)
    rcases hN.2.1 z with ⟨x, x1, x2, x3⟩ | ⟨x2, y, y1, y2, y3⟩
    · have wle : ∀ a b : Nat, a ≤ 1000 → b ≤ 1000 → (w64 a ≤ w64 b ↔ a ≤ b) := by
        intro a b ha hb
        rw [Int64.le_iff_toInt_le, w64_toInt (by omega), w64_toInt (by omega)]
        exact Int.ofNat_le
      by_cases y : lo ≤ x ∧ x ≤ hi
      · refine Or.inl ⟨x, y.1, y.2, z, x2, kM, ?_⟩
        unfold fX9_number bX9_number_33
        rw [oK_of (sh45 hs), oJ_of, rS_17, oI_of, oK_of (sh45 hs), oI_of, rS_16, if_pos zo, oK_of (sh45 hs), oJ_of, m_in, oB_of, x3, if_pos (show l ≤ w64 x ∧ w64 x ≤ h by rw [hl, hh, wle _ _ (by omega) (by omega), wle _ _ (by omega) (by omega)]; exact y), if_neg (by decide), oR_of (sh45 hs), r_must1 hm kM (by decide), oB_of, w64_32]
      · refine Or.inr ⟨fun w => y ?_, Int64.toInt32 (tW t k), ?_⟩
        · rw [x2] at w
          exact ⟨(nI_leI (by omega) (by omega)).mp w.2.1, (nI_leI (by omega) (by omega)).mp w.2.2⟩
        · unfold fX9_number
          rw [oK_of (sh45 hs), oJ_of, rS_17, oI_of, oK_of (sh45 hs), oI_of, rS_16, if_pos zo, oK_of (sh45 hs), oJ_of, m_in, oB_of, if_neg (show ¬ (l ≤ tW t k ∧ tW t k ≤ h) from fun w => y (by rw [hl, hh, x3, wle _ _ (by omega) (by omega), wle _ _ (by omega) (by omega)] at w; exact w)), if_pos rfl, bad]
    · refine Or.inr ⟨fun w => ?_, Int64.toInt32 (tW t k), ?_⟩
      · rw [x2] at w
        exact absurd ((nI_leI (by omega) (by omega)).mp w.2.2) (by omega)
      · unfold fX9_number
        rw [oK_of (sh45 hs), oJ_of, rS_17, oI_of, oK_of (sh45 hs), oI_of, rS_16, if_pos zo, oK_of (sh45 hs), oJ_of, m_in, oB_of, if_neg (show ¬ (l ≤ tW t k ∧ tW t k ≤ h) from fun w => by
          have w2 := w.2
          rw [hh, y3, Int64.le_iff_toInt_le, w64_toInt (by omega), w64_toInt (by omega)] at w2
          omega), if_pos rfl, bad]
  · refine Or.inr ⟨fun w => z w.1, Int64.toInt32 (tW t k), ?_⟩
    unfold fX9_number
    rw [oK_of (sh45 hs), oJ_of, rS_17, oI_of, oK_of (sh45 hs), oI_of, rS_16, if_neg (fun w => z (hN.1.mp w)), bad]
end
