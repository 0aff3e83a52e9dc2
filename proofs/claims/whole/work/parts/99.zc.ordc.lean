/-! ===== a clause of orders, by the reference ===== -/
def w9 (m : Mm) (i : Nat) (x : Int32) : Mm := wI m 69 (upd (mI m 69) i x)
set_option maxRecDepth 100000 in
theorem BFr_w9 {m : Mm} {i : Nat} {x : Int32} : BFr m (w9 m i x) := BFr_69
set_option maxRecDepth 100000 in
theorem w9_at {m : Mm} {i : Nat} {x : Int32} : mI (w9 m i x) 69 i = x := by
  show upd (mI m 69) i x i = x
  rw [pk_us]
set_option maxRecDepth 100000 in
theorem w9_un {m : Mm} {i j : Nat} {x : Int32} (h : j ≠ i) : mI (w9 m i x) 69 j = mI m 69 j := by
  show upd (mI m 69) i x j = _
  rw [pk_un h]
set_option maxRecDepth 100000 in
theorem w9_45 {m : Mm} {i j : Nat} {x : Int32} : mI (w9 m i x) 45 j = mI m 45 j := rfl
set_option maxRecDepth 100000 in
theorem w9_sh {m : Mm} {i : Nat} {x : Int32} (h : hSh m) : hSh (w9 m i x) := h
set_option maxRecDepth 100000 in
theorem cs68w : ∀ j, j < 4 → cs68.getD j 0 = wdc.getD (4 + j) 0 := by decide +kernel
section
variable {t : Tk} {q : Bool} {c m : Mm} {k nc nl np no n : Nat} {op ar pl pa : Nat → Int32}
set_option maxRecDepth 100000 in
theorem rS_69u {i : Nat} {x : Int32} : wI (rS t m k nc nl np no op ar pl pa) 69 (upd (mI (rS t m k nc nl np no op ar pl pa) 69) i x) = rS t (w9 m i x) k nc nl np no op ar pl pa := rS_b (by decide)
set_option maxRecDepth 100000 in
theorem r_22 (hm : hSh m) {x : Nat} (hx : x + 1 < 120) : bX9_readSum_22 (rS t m k nc nl np no op ar pl pa) 45 (nI x) = some ((), rS t (w9 m (x + 1) (nI nc)) k nc nl np no op ar pl pa) := by
  have hs : hSh (rS t m k nc nl np no op ar pl pa) := hm
  unfold bX9_readSum_22
  rw [oK_of (sh45 hs), rf45_46 hs, oNn_of, oK_of (sh45 hs), oI_of, rS_23, nI_1, oA_k (sh69 hs) hx (by decide), clm (by omega), oU_of, rS_69u]
set_option maxRecDepth 100000 in
theorem r_sum (hm : hSh m) {x : Nat} (hx : x + 1 < 120) : fX9_readSum (rS t m k nc nl np no op ar pl pa) 45 (nI x) = (if mI m 45 19 = 0 then oB (fX9_readExpression (rS t (w9 m x (nI nc)) k nc nl np no op ar pl pa) 45 0) (fun _ u8 => bX9_readSum_22 u8 45 (nI x)) else some ((), rS t (w9 (w9 m x (nI nc)) (x + 1) (nI nc)) k nc nl np no op ar pl pa)) := by
  have hs : hSh (rS t m k nc nl np no op ar pl pa) := hm
  have h1 : hSh (rS t (w9 m x (nI nc)) k nc nl np no op ar pl pa) := hm
  unfold fX9_readSum
  rw [oK_of (sh45 hs), rf45_46 hs, oNn_of, oK_of (sh45 hs), oI_of, rS_23, oA_k (sh69 hs) (by omega) (by decide), clm (by omega), oU_of, rS_69u, oK_of (sh45 h1), oI_of, rS_19', w9_45, oR_of (sh45 h1), r_22 (m := w9 m x (nI nc)) hm hx]
set_option maxRecDepth 100000 in
theorem b_sum (hm : hSh m) {s : Mm} {k' x : Nat} (hx : x + 1 < 120) (h : Bad9 t m s k') : ∃ s', fX9_readSum s 45 (nI x) = some ((), s') ∧ Bad9 t m s' k' := by
  obtain ⟨m', k, nc, nl, np, no, op, ar, pl, pa, rfl, b1, b2, b3⟩ := h
  refine ⟨_, (r_sum (BFr_sh b1 hm) hx).trans (if_neg (by rw [b2]; decide)), _, k, nc, nl, np, no, op, ar, pl, pa, rfl, BFr_trans b1 (BFr_trans BFr_w9 BFr_w9), b2, b3⟩
set_option maxRecDepth 100000 in
theorem Bad9_sh (hm : hSh m) {s : Mm} {k' : Nat} (h : Bad9 t m s k') : hSh s ∧ mI s 45 19 = 1 := by
  obtain ⟨m', k, nc, nl, np, no, op, ar, pl, pa, rfl, b1, b2, b3⟩ := h
  exact ⟨show hSh m' from BFr_sh b1 hm, b2⟩
set_option maxRecDepth 100000 in
theorem b_behind (hm : hSh m) {s : Mm} {k' x : Nat} {w : Int64} (hx : x + 1 < 120) (h : Bad9 t m s k') : ∃ s', fX9_behind s 45 w (nI x) = some ((), s') ∧ Bad9 t m s' k' := by
  obtain ⟨s', a1, a2⟩ := b_sum hm hx h
  obtain ⟨b1, b2⟩ := Bad9_sh hm h
  refine ⟨s', ?_, a2⟩
  unfold fX9_behind bX9_behind_16
  rw [oK_of (sh45 b1), oI_of, b2, if_neg (by decide), oR_of (sh45 b1), a1, oB_of]
set_option maxRecDepth 100000 in
theorem r_behind (hT : TkO t) (hm : LXm t q m) (hk : k ≤ tM t) {i x : Nat} (hi : i < 28) {w : Int64} (hw : w = wdc.getD i 0) : fX9_behind (rS t m k nc nl np no op ar pl pa) 45 w (nI x) = (if tK t k = nI (256 + i) then fX9_readSum (rS t m (k + 1) nc nl np no op ar pl pa) 45 (nI x) else fX9_readSum (rS t (mB t m k) k nc nl np no op ar pl pa) 45 (nI x)) := by
  have hs : ∀ k, hSh (rS t m k nc nl np no op ar pl pa) := fun _ => hm.1
  have hB : hSh (rS t (mB t m k) k nc nl np no op ar pl pa) := hm.1
  have idm : ∀ (X : Option (Unit × Mm)), oB X (fun _ u2 => some ((), u2)) = X := by
    intro X
    cases X with
    | none => rfl
    | some v => rfl
  unfold fX9_behind
  rw [oK_of (sh45 (hs _)), oI_of, rS_19 hm.2.2.1, if_pos rfl, oR_of (sh45 (hs _)), r_wd hT hm.1 hk hi hw, oB_of, oR_of (sh45 (hs _))]
  by_cases z : tK t k = nI (256 + i)
  · have kM : k < tM t := TkO_lt hT hk (by
      rw [z]
      rcases (show i = 30 ∨ i ≠ 30 by omega) with e | e
      · omega
      · exact nIne (b := 286) (by omega) (by omega) (by decide))
    rw [if_pos z, if_pos z, r_must1 hm kM (by decide), oB_of]
    unfold bX9_behind_16
    rw [oR_of (sh45 (hs _)), idm]
  · rw [if_neg z, if_neg z, r_must0 hm rfl, oB_of]
    unfold bX9_behind_16
    rw [oR_of (sh45 hB), idm]
/-! behind the sums -/
set_option maxRecDepth 100000 in
theorem r_248 (hm : hSh m) (hn : n < 12) : bX9_readOrder_248 (rS t m k nc nl np no op ar pl pa) 45 (nI (10 * n)) = some ((), rS t (w9 m (10 * n + 8) (nI nc)) k nc nl np no op ar pl pa) := by
  have hs : hSh (rS t m k nc nl np no op ar pl pa) := hm
  have ix : nI (10 * n) + 7 + 1 = nI (10 * n + 8) := by rw [show (7 : Int32) = nI 7 from rfl, nI_add, nI_1]
  unfold bX9_readOrder_248
  rw [oK_of (sh45 hs), rf45_46 hs, oNn_of, oK_of (sh45 hs), oI_of, rS_23, ix, oA_k (sh69 hs) (by omega) (by decide), clm (by omega), oU_of, rS_69u]
set_option maxRecDepth 100000 in
theorem r_209 (hm : hSh m) (hn : n < 12) : bX9_readOrder_209 (rS t m k nc nl np no op ar pl pa) 45 (nI (10 * n)) = (if mI m 45 19 = 0 then oB (fX9_isWord (rS t (w9 m (10 * n + 7) (nI nc)) k nc nl np no op ar pl pa) 45 294) (fun v19 u20 => (if (v19 : Int32) = 0 then bX9_readOrder_248 u20 45 (nI (10 * n)) else oR u20 45 9 (oB (fX9_next u20 45) (fun _ u21 => oR u21 45 9 (oB (fX9_readExpression u21 45 1) (fun _ u22 => bX9_readOrder_248 u22 45 (nI (10 * n)))))))) else some ((), rS t (w9 (w9 m (10 * n + 7) (nI nc)) (10 * n + 8) (nI nc)) k nc nl np no op ar pl pa)) := by
  have hs : hSh (rS t m k nc nl np no op ar pl pa) := hm
  have h1 : hSh (rS t (w9 m (10 * n + 7) (nI nc)) k nc nl np no op ar pl pa) := hm
  have ix : nI (10 * n) + 7 = nI (10 * n + 7) := by rw [show (7 : Int32) = nI 7 from rfl, nI_add]
  unfold bX9_readOrder_209
  rw [oK_of (sh45 hs), rf45_46 hs, oNn_of, oK_of (sh45 hs), oI_of, rS_23, ix, oA_k (sh69 hs) (by omega) (by decide), clm (by omega), oU_of, rS_69u, oK_of (sh45 h1), oI_of, rS_19', w9_45, oR_of (sh45 h1), r_248 (m := w9 m (10 * n + 7) (nI nc)) hm hn]
set_option maxRecDepth 100000 in
theorem b_209 (hm : hSh m) (hn : n < 12) {s : Mm} {k' : Nat} (h : Bad9 t m s k') : ∃ s', bX9_readOrder_209 s 45 (nI (10 * n)) = some ((), s') ∧ Bad9 t m s' k' := by
  obtain ⟨m', k, nc, nl, np, no, op, ar, pl, pa, rfl, b1, b2, b3⟩ := h
  exact ⟨_, (r_209 (BFr_sh b1 hm) hn).trans (if_neg (by rw [b2]; decide)), _, k, nc, nl, np, no, op, ar, pl, pa, rfl, BFr_trans b1 (BFr_trans BFr_w9 BFr_w9), b2, b3⟩
set_option maxRecDepth 100000 in
theorem r_161 (hm : hSh m) (hn : n < 12) : bX9_readOrder_161 (rS t m k nc nl np no op ar pl pa) 45 (nI (10 * n)) = (if mI m 45 19 = 0 then oB (fX9_isWord (rS t (w9 m (10 * n + 9) 1) k nc nl np no op ar pl pa) 45 21279923) (fun v23 u24 => (if (v23 : Int32) = 0 then bX9_readOrder_209 u24 45 (nI (10 * n)) else oR u24 45 9 (oB (fX9_next u24 45) (fun _ u25 => oK u25 45 9 54 (oNn (mR u25 45 46) (fun e26 => oR u25 45 9 (oB (fX9_number u25 45 1 20) (fun v27 u28 => oA u28 e26 10 (nI (10 * n + 9)) (oU (wI u28 e26 (upd (mI u28 e26) (10 * n + 9) v27)) (fun u29 => bX9_readOrder_209 u29 45 (nI (10 * n)))))))))))) else bX9_readOrder_209 (rS t (w9 m (10 * n + 9) 1) k nc nl np no op ar pl pa) 45 (nI (10 * n))) := by
  have hs : hSh (rS t m k nc nl np no op ar pl pa) := hm
  have h1 : hSh (rS t (w9 m (10 * n + 9) 1) k nc nl np no op ar pl pa) := hm
  have ix : nI (10 * n) + 9 = nI (10 * n + 9) := by rw [show (9 : Int32) = nI 9 from rfl, nI_add]
  unfold bX9_readOrder_161
  rw [oK_of (sh45 hs), rf45_46 hs, oNn_of, ix, oA_k (sh69 hs) (by omega) (by decide), clm (by omega), oU_of, rS_69u, oK_of (sh45 h1), oI_of, rS_19', w9_45, oR_of (sh45 h1)]
set_option maxRecDepth 100000 in
theorem b_161 (hm : hSh m) (hn : n < 12) {s : Mm} {k' : Nat} (h : Bad9 t m s k') : ∃ s', bX9_readOrder_161 s 45 (nI (10 * n)) = some ((), s') ∧ Bad9 t m s' k' := by
  obtain ⟨m', k, nc, nl, np, no, op, ar, pl, pa, rfl, b1, b2, b3⟩ := h
  have b : Bad9 t m (rS t (w9 m' (10 * n + 9) 1) k nc nl np no op ar pl pa) k' := ⟨_, k, nc, nl, np, no, op, ar, pl, pa, rfl, BFr_trans b1 BFr_w9, b2, b3⟩
  obtain ⟨s', c1, c2⟩ := b_209 hm hn b
  exact ⟨s', (r_161 (BFr_sh b1 hm) hn).trans ((if_neg (by rw [b2]; decide)).trans c1), c2⟩
set_option maxRecDepth 100000 in
theorem b_146 (hm : hSh m) (hn : n < 12) {x : Int32} {s : Mm} {k' : Nat} (h : Bad9 t m s k') : ∃ s', bX9_readOrder_146 s 45 x (nI (10 * n)) = some ((), s') ∧ Bad9 t m s' k' := by
  have ix : nI (10 * n) + 5 = nI (10 * n + 5) := by rw [show (5 : Int32) = nI 5 from rfl, nI_add]
  unfold bX9_readOrder_146
  by_cases z : x = 1
  · obtain ⟨s1, a1, a2⟩ := b_behind hm (w := 89) (x := 10 * n + 5) (by omega) h
    obtain ⟨s', c1, c2⟩ := b_161 hm hn a2
    refine ⟨s', ?_, c2⟩
    rw [if_pos z, oR_of (sh45 (Bad9_sh hm h).1), ix, a1, oB_of, c1]
  · obtain ⟨s', c1, c2⟩ := b_161 hm hn h
    exact ⟨s', by rw [if_neg z, c1], c2⟩
set_option maxRecDepth 100000 in
theorem b_140 (hm : hSh m) (hn : n < 12) {x : Int32} {w : Int64} {s : Mm} {k' : Nat} (h : Bad9 t m s k') : ∃ s', bX9_readOrder_140 s 45 x (nI (10 * n)) w 45 = some ((), s') ∧ Bad9 t m s' k' := by
  have ix : nI (10 * n) + 3 = nI (10 * n + 3) := by rw [show (3 : Int32) = nI 3 from rfl, nI_add]
  obtain ⟨s1, a1, a2⟩ := b_behind hm (w := w) (x := 10 * n + 3) (by omega) h
  obtain ⟨s', c1, c2⟩ := b_146 hm hn (x := x) a2
  refine ⟨s', ?_, c2⟩
  unfold bX9_readOrder_140
  rw [oR_of (sh45 (Bad9_sh hm h).1), ix, a1, oB_of, c1]
end
