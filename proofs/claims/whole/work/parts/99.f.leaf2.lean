/-! ===== a part that is no bracket, by both: joined ===== -/
set_option maxRecDepth 100000 in
theorem pAt_y : ∀ j, j < 10 → pAt (nI (272 + j)) 10 = nI (j + 1) := by decide +kernel
set_option maxRecDepth 100000 in
theorem oAt_y : ∀ j, j < 6 → oAt (nI (256 + ows.getD j 0)) 6 = nI (j + 1) := by decide +kernel
set_option maxRecDepth 100000 in
theorem pAt_n {x : Int32} : ∀ n, (∀ j, j < n → ¬ x = nI (272 + j)) → pAt x n = -1
  | 0, _ => rfl
  | n + 1, h => by rw [pAt_s, if_neg (h n (by omega))]; exact pAt_n n (fun j hj => h j (by omega))
set_option maxRecDepth 100000 in
theorem oAt_n {x : Int32} : ∀ n, (∀ j, j < n → ¬ x = nI (256 + ows.getD j 0)) → oAt x n = -1
  | 0, _ => rfl
  | n + 1, h => by rw [oAt_s, if_neg (h n (by omega))]; exact oAt_n n (fun j hj => h j (by omega))
section
variable {t : Tk} {q : Bool} {c m : Mm} {k p L nc nl np no : Nat} {cd wt op ar pl pa : Nat → Int32}
def itsF (q : Bool) (x : Int32) : Int32 := if q = true then oAt x 6 else pAt x 10
set_option maxRecDepth 100000 in
theorem r_readPart (hT : TkO t) (hm : LXm t q m) (hk : k ≤ tM t) (h91 : ¬ tK t k = 91) : fX9_readPart (rS t m k nc nl np no op ar pl pa) 45 = bX9_readPart_35 (rS t m k nc nl np no op ar pl pa) 45 (itsF q (tK t k)) := by
  have hs : hSh (rS t m k nc nl np no op ar pl pa) := hm.1
  unfold fX9_readPart itsF
  rw [oR_of (sh45 hs), r_sgN hT hm.1 hk (by decide) h91, oB_of, if_pos rfl, oK_of (sh45 hs), oI_of, rS_20 hm]
  cases q with
  | true => rw [if_pos rfl, if_neg (by decide), oR_of (sh45 hs), r_opartAt hT hm.1 hk, oB_of, if_pos rfl]
  | false => rw [if_pos (show (if false = true then (1 : Int32) else 0) = 0 from rfl), oR_of (sh45 hs), r_partAt hT hm.1 hk, oB_of, if_neg (by decide)]
set_option maxRecDepth 100000 in
theorem r_60 (hm : hSh m) {its d : Int32} : ∃ a o x, bX9_readPart_60 (rS t m k nc nl np no op ar pl pa) 45 its d = bX9_readPart_99 (rS t m k nc nl np no op ar pl pa) 45 its a o x 45 := by
  have hs : hSh (rS t m k nc nl np no op ar pl pa) := hm
  have h86 : ∀ o x, ∃ a, bX9_readPart_86 (rS t m k nc nl np no op ar pl pa) 45 its d o x 45 = bX9_readPart_99 (rS t m k nc nl np no op ar pl pa) 45 its a o x 45 := by
    intro o x
    unfold bX9_readPart_86
    by_cases z : d = 0
    · rw [if_pos z]; exact ⟨0, rfl⟩
    · rw [if_neg z, oK_of (sh45 hs), oJ_of]; exact ⟨_, rfl⟩
  have h76 : ∀ x, ∃ a o, bX9_readPart_76 (rS t m k nc nl np no op ar pl pa) 45 its d x 45 = bX9_readPart_99 (rS t m k nc nl np no op ar pl pa) 45 its a o x 45 := by
    intro x
    unfold bX9_readPart_76
    by_cases z : its = -1
    · rw [if_pos z]; obtain ⟨a, e⟩ := h86 0 x; exact ⟨a, 0, e⟩
    · rw [if_neg z]; obtain ⟨a, e⟩ := h86 its x; exact ⟨a, its, e⟩
  unfold bX9_readPart_60 bX9_readPart_71
  by_cases z : its = -1
  · rw [if_pos z]
    by_cases y : d = 0
    · rw [if_pos y]; obtain ⟨a, o, e⟩ := h76 0; exact ⟨a, o, 0, e⟩
    · rw [if_neg y]; obtain ⟨a, o, e⟩ := h76 1; exact ⟨a, o, 1, e⟩
  · rw [if_neg z]; obtain ⟨a, o, e⟩ := h76 1; exact ⟨a, o, 1, e⟩
set_option maxRecDepth 100000 in
theorem r_35any (hm : hSh m) {its : Int32} : ∃ a o x, bX9_readPart_35 (rS t m k nc nl np no op ar pl pa) 45 its = bX9_readPart_99 (rS t m k nc nl np no op ar pl pa) 45 its a o x 45 := by
  have hs : hSh (rS t m k nc nl np no op ar pl pa) := hm
  unfold bX9_readPart_35 bX9_readPart_59
  rw [oK_of (sh45 hs), oI_of, rS_16]
  by_cases z : tO t k = 2
  · rw [if_pos z, oK_of (sh45 hs), oJ_of]
    by_cases y : 0 < lg_cmp (mL (rS t m k nc nl np no op ar pl pa) 45 17) 1000
    · rw [if_pos y]; exact r_60 hm
    · rw [if_neg y]; exact r_60 hm
  · rw [if_neg z]; exact r_60 hm
set_option maxRecDepth 100000 in
theorem r_35num (hm : hSh m) {x : Nat} (hx : x ≤ 1000) (h2 : tO t k = 2) (hw : tW t k = w64 x) : bX9_readPart_35 (rS t m k nc nl np no op ar pl pa) 45 (-1) = bX9_readPart_99 (rS t m k nc nl np no op ar pl pa) 45 (-1) (nI x) 0 1 45 := by
  have hs : hSh (rS t m k nc nl np no op ar pl pa) := hm
  have e : ¬ 0 < lg_cmp (tW t k) 1000 := by
    rw [lg_gt, hw, Int64.not_lt, Int64.le_iff_toInt_le, w64_toInt (by omega)]
    exact Int.ofNat_le.mpr hx
  unfold bX9_readPart_35 bX9_readPart_60 bX9_readPart_71 bX9_readPart_76 bX9_readPart_86
  rw [oK_of (sh45 hs), oI_of, rS_16, if_pos h2, oK_of (sh45 hs), oJ_of, rS_17, if_neg e, if_pos rfl, if_neg (by decide), if_pos rfl, if_neg (by decide), oK_of (sh45 hs), oJ_of, hw, w64_32]
set_option maxRecDepth 100000 in
theorem r_35word (hm : hSh m) {its : Int32} (hi : ¬ its = -1) (h2 : ¬ tO t k = 2) : bX9_readPart_35 (rS t m k nc nl np no op ar pl pa) 45 its = bX9_readPart_99 (rS t m k nc nl np no op ar pl pa) 45 its 0 its 1 45 := by
  have hs : hSh (rS t m k nc nl np no op ar pl pa) := hm
  unfold bX9_readPart_35 bX9_readPart_59 bX9_readPart_60 bX9_readPart_71 bX9_readPart_76 bX9_readPart_86
  rw [oK_of (sh45 hs), oI_of, rS_16, if_neg h2, if_neg hi, if_neg hi, if_pos rfl]
set_option maxRecDepth 100000 in
theorem r_35bad (hm : hSh m) (h2 : ¬ tO t k = 2 ∨ ∃ y, 1000 < y ∧ y < 2147483648 ∧ tW t k = w64 y) : bX9_readPart_35 (rS t m k nc nl np no op ar pl pa) 45 (-1) = bX9_readPart_99 (rS t m k nc nl np no op ar pl pa) 45 (-1) 0 0 0 45 := by
  have hs : hSh (rS t m k nc nl np no op ar pl pa) := hm
  have go : bX9_readPart_59 (rS t m k nc nl np no op ar pl pa) 45 (-1) = bX9_readPart_99 (rS t m k nc nl np no op ar pl pa) 45 (-1) 0 0 0 45 := by
    unfold bX9_readPart_59 bX9_readPart_60 bX9_readPart_76 bX9_readPart_86
    rw [if_pos rfl, if_pos rfl, if_pos rfl, if_pos rfl]
  unfold bX9_readPart_35
  rw [oK_of (sh45 hs), oI_of, rS_16]
  by_cases z : tO t k = 2
  · obtain ⟨y, y1, y2, y3⟩ := h2.resolve_left (fun w => w z)
    have e : 0 < lg_cmp (tW t k) 1000 := by
      rw [lg_gt, y3, Int64.lt_iff_toInt_lt, w64_toInt y2]
      exact Int.ofNat_lt.mpr y1
    rw [if_pos z, oK_of (sh45 hs), oJ_of, rS_17, if_pos e, go]
  · rw [if_neg z, go]
set_option maxRecDepth 100000 in
theorem r_99ord (hT : TkO t) (hm : LXm t true m) (hk : k < tM t) (hl : nl < 50) (hn : nc < 400) {j : Nat} (h3 : 3 ≤ j) (h6 : j < 6) :
    (∃ x, x ≤ owM j ∧ tK t (k + 1) = 285 ∧ tV t (k + 1) = nI x ∧ k + 2 ≤ tM t ∧ bX9_readPart_99 (rS t m k nc nl np no op ar pl pa) 45 (nI (j + 1)) 0 (nI (j + 1)) 1 45 = some (3, rS t m (k + 2) (nc + 1) (nl + 1) np no (upd op nc (nI (j + 1))) (upd ar nc (nI x)) pl pa)) ∨
    (¬ (tK t (k + 1) = 285 ∧ tV t (k + 1) ≤ nI (owM j)) ∧ ∃ v, bX9_readPart_99 (rS t m k nc nl np no op ar pl pa) 45 (nI (j + 1)) 0 (nI (j + 1)) 1 45 = some (3, rS t (mB t m (k + 1)) (k + 1) (nc + 1) (nl + 1) np no (upd op nc (nI (j + 1))) (upd ar nc v) pl pa)) := by
  have hs : ∀ k nc nl op ar, hSh (rS t m k nc nl np no op ar pl pa) := fun _ _ _ _ _ => hm.1
  have hsB : ∀ k k' nc nl op ar, hSh (rS t (mB t m k') k nc nl np no op ar pl pa) := fun _ _ _ _ _ _ => hm.1
  have h147 : bX9_readPart_99 (rS t m k nc nl np no op ar pl pa) 45 (nI (j + 1)) 0 (nI (j + 1)) 1 45 = bX9_readPart_147 (rS t m (k + 1) (nc + 1) (nl + 1) np no (upd op nc (nI (j + 1))) (upd ar nc 0) pl pa) (w64 (owM j)) (w64 0) 45 (nI nc) 57 := by
    have e4 : ¬ nI (j + 1) < 4 := nI_nlt (b := 4) (by omega) (by omega)
    unfold bX9_readPart_99
    rw [oR_of (sh45 (hs _ _ _ _ _)), r_leaf1 hm hk hl hn, oB_of, oK_of (sh45 (hs _ _ _ _ _)), oI_of, rS_20 hm, if_neg (by decide), if_neg e4, oK_of (sh45 (hs _ _ _ _ _)), oI_of, rS_19 hm.2.2.1, if_pos rfl, oK_of (sh45 (hs _ _ _ _ _)), oI_of, rS_23, oI_of, nI_pred, oK_of (sh45 (hs _ _ _ _ _)), rf45_25 (hs _ _ _ _ _), oNn_of]
    rcases (show j = 3 ∨ j = 4 ∨ j = 5 by omega) with rfl | rfl | rfl
    · rw [if_pos (by decide)]; rfl
    · rw [if_neg (by decide)]; rfl
    · rw [if_neg (by decide)]; rfl
  rw [h147]
  unfold bX9_readPart_147
  rcases r_number (nc := nc + 1) (nl := nl + 1) (np := np) (no := no) (op := upd op nc (nI (j + 1))) (ar := upd ar nc 0) (pl := pl) (pa := pa) hT hm (k := k + 1) (by omega) (hi := owM j) (by unfold owM; split <;> omega) (lo := 0) (l := w64 0) (h := w64 (owM j)) rfl rfl (by omega) with ⟨x, x1, x2, x3, x4, x5, x6⟩ | ⟨x1, v, x2⟩
  · refine Or.inl ⟨x, x2, x3, x4, by omega, ?_⟩
    rw [oR_of (sh45 (hs _ _ _ _ _)), x6, oB_of, oA_k (sh57 (hs _ _ _ _ _)) hn (by decide), clm (by omega), oU_of, rS_aru, upd_s]
  · refine Or.inr ⟨fun w => x1 ⟨w.1, ?_, w.2⟩, v, ?_⟩
    · rcases (hT.2.2.2.1 (k + 1) (by omega)).2.1 w.1 with ⟨x, y1, y2, -⟩ | ⟨y2, -⟩
      · rw [y2]; exact nI_le (by omega) (by omega)
      · rw [y2]; exact nI_le (by omega) (by omega)
    · rw [oR_of (sh45 (hs _ _ _ _ _)), x2, oB_of, oA_k (sh57 (hsB _ _ _ _ _ _)) hn (by decide), clm (by omega), oU_of, rS_aru, upd_s]
/-- both read the same leaf, or find the same fault -/
def Leaf (t : Tk) (q : Bool) (c m : Mm) (k p L nc np no : Nat) (cd wt op ar pl pa : Nat → Int32) : Prop :=
  (∃ k' o w ro ra, p < 50 ∧ k < k' ∧ k' ≤ tM t ∧ (o = 285 ∨ o = 287) ∧ lvM q ro ra ∧ (∀ W, leafV W o w = LM q W ro ra) ∧ (∀ rT rS_ rP rA x, fgX4_readPart rT rS_ rP rA (cS c k p L cd wt) 19 x = some (1, cS c k' (p + 1) (L + 1) (upd cd L o) (upd wt L w))) ∧ fX9_readPart (rS t m k nc p np no op ar pl pa) 45 = some (3, rS t m k' (nc + 1) (p + 1) np no (upd op nc ro) (upd ar nc ra) pl pa))
  ∨ (∃ k' p' L' cd' wt' nc' nl' op' ar', k ≤ k' ∧ k' ≤ tM t ∧ nc' + k ≤ nc + k' ∧ (∀ rT rS_ rP rA x, fgX4_readPart rT rS_ rP rA (cS c k p L cd wt) 19 x = some (0, cS c k' p' L' cd' wt')) ∧ fX9_readPart (rS t m k nc p np no op ar pl pa) 45 = some (3, rS t (mB t m k') k' nc' nl' np no op' ar' pl pa))
set_option maxRecDepth 100000 in
theorem leafV_w {W : Nat → Int32} {x : Nat} (hx : x ≤ 14) : leafV W 287 (nI x) = (W x).toInt64 := by
  unfold leafV
  rw [if_pos ⟨rfl, nI_pos' (by omega), show nI x ≤ 14 from nI_le (b := 14) hx (by decide)⟩, clm (by omega)]
set_option maxRecDepth 100000 in
theorem J_leaf (hT : TkO t) (hc : LXc t q c) (hm : LXm t q m) (hk : k ≤ tM t) (hL : L ≤ k) (hp : p ≤ 50) (hn : nc ≤ k) (h91 : ¬ tK t k = 91) : Leaf t q c m k p L nc np no cd wt op ar pl pa := by
  have h4 := hT.1
  have hN := hT.2.2.2.1 k hk
  by_cases p5 : p < 50
  · by_cases z : tK t k = 285
    · have kM : k < tM t := TkO_lt hT hk (by rw [z]; decide)
      have its1 : itsF q (tK t k) = -1 := by rw [z]; cases q <;> decide +kernel
      rcases hN.2.1 z with ⟨x, x1, x2, x3⟩ | ⟨x2, y, y1, y2, y3⟩
      · refine Or.inl ⟨k + 1, 285, nI x, 0, nI x, p5, by omega, by omega, Or.inl rfl, Or.inl ⟨rfl, nI_rg x1 (by decide)⟩, fun W => ?_, fun rT rS_ rP rA w => ?_, ?_⟩
        · unfold leafV LM
          rw [if_neg (fun w => absurd w.1 (by decide)), if_pos rfl]
        · rw [c_part0 hT hc hk h91 p5 (by omega), if_pos ⟨z, by rw [x2]; exact nI_le (b := 1000) x1 (by decide)⟩, x2]
        · rw [r_readPart hT hm hk h91, its1, r_35num hm.1 x1 (hN.1.mpr z) x3, r_99ok hm kM p5 (by omega) (Or.inr (by decide))]
      · have big : ¬ (tK t k = 285 ∧ tV t k ≤ 1000) := by
          rw [x2]; exact fun w => absurd w.2 (by decide)
        have cl : ∃ cd' wt', ∀ rT rS_ rP rA w, fgX4_readPart rT rS_ rP rA (cS c k p L cd wt) 19 w = some (0, cS c k (p + 1) (L + 1) cd' wt') := by
          refine ⟨upd cd L 287, upd wt L (-1), fun rT rS_ rP rA w => ?_⟩
          rw [c_part0 hT hc hk h91 p5 (by omega), if_neg big]
          cases q with
          | false => rw [c_116L hc (c_lwN hT hc hk (by rw [z]; decide +kernel)), oB_of, c_134 hc.1 (by omega), if_pos rfl]
          | true => rw [c_116O hc (c_owN hT hc hk (by rw [z]; decide +kernel)), oB_of, c_134 hc.1 (by omega), if_pos rfl]
        obtain ⟨cd', wt', cl⟩ := cl
        refine Or.inr ⟨k, p + 1, L + 1, cd', wt', nc, p, op, ar, Nat.le_refl k, hk, Nat.le_refl _, cl, ?_⟩
        rw [r_readPart hT hm hk h91, its1, r_35bad hm.1 (Or.inr ⟨y, y1, y2, y3⟩), r_99bad hm (Or.inl rfl)]
    · have n2 : ¬ tO t k = 2 := fun w => z (hN.1.mp w)
      have nb : ¬ (tK t k = 285 ∧ tV t k ≤ 1000) := fun w => z w.1
      cases q with
      | false =>
        by_cases hw : ∃ j, j < 10 ∧ tK t k = nI (272 + j)
        · obtain ⟨j, hj, e⟩ := hw
          have kM : k < tM t := TkO_lt hT hk (by rw [e]; exact nIne (b := 286) (by omega) (by omega) (by decide))
          have its1 : itsF false (tK t k) = nI (j + 1) := by unfold itsF; rw [if_neg (by decide), e, pAt_y j hj]
          have nm : ¬ nI (j + 1) = -1 := by
            intro w
            have := congrArg Int32.toInt w
            rw [nI_toInt (by omega)] at this
            have m1 : (-1 : Int32).toInt = -1 := by decide
            omega
          have nm' : ¬ nI j = -1 := by
            intro w
            have := congrArg Int32.toInt w
            rw [nI_toInt (by omega)] at this
            have m1 : (-1 : Int32).toInt = -1 := by decide
            omega
          refine Or.inl ⟨k + 1, 287, nI j, nI (j + 1), 0, p5, by omega, by omega, Or.inr rfl, Or.inr (Or.inl ⟨rfl, j + 1, by omega, by omega, rfl⟩), fun W => ?_, fun rT rS_ rP rA w => ?_, ?_⟩
          · rw [leafV_w (by omega)]
            unfold LM
            rw [if_neg (nI_ne0 (by omega) (by omega)), if_pos rfl, clm (by omega), Nat.add_sub_cancel]
          · rw [c_part0 hT hc hk h91 p5 (by omega), if_neg nb, c_116L hc (c_lwY hT hc hk hj e), oB_of, c_134 hc.1 (by omega), if_neg nm']
          · rw [r_readPart hT hm hk h91, its1, r_35word hm.1 nm n2, r_99ok hm kM p5 (by omega) (Or.inl rfl)]
        · have hw' : ∀ j, j < 10 → ¬ tK t k = nI (272 + j) := fun j hj e => hw ⟨j, hj, e⟩
          have its1 : itsF false (tK t k) = -1 := by unfold itsF; rw [if_neg (by decide)]; exact pAt_n 10 hw'
          refine Or.inr ⟨k, p + 1, L + 1, upd cd L 287, upd wt L (-1), nc, p, op, ar, Nat.le_refl k, hk, Nat.le_refl _, fun rT rS_ rP rA w => ?_, ?_⟩
          · rw [c_part0 hT hc hk h91 p5 (by omega), if_neg nb, c_116L hc (c_lwN hT hc hk hw'), oB_of, c_134 hc.1 (by omega), if_pos rfl]
          · rw [r_readPart hT hm hk h91, its1, r_35bad hm.1 (Or.inl n2), r_99bad hm (Or.inl rfl)]
      | true =>
        by_cases hw : ∃ j, j < 6 ∧ tK t k = nI (256 + ows.getD j 0)
        · obtain ⟨j, hj, e⟩ := hw
          have o28 := ows_lt j hj
          have kM : k < tM t := TkO_lt hT hk (by rw [e]; exact nIne (b := 286) (by omega) (by omega) (by decide))
          have its1 : itsF true (tK t k) = nI (j + 1) := by unfold itsF; rw [if_pos rfl, e, oAt_y j hj]
          have nm : ∀ i, i < 100 → ¬ nI i = -1 := by
            intro i hi w
            have := congrArg Int32.toInt w
            rw [nI_toInt (by omega)] at this
            have m1 : (-1 : Int32).toInt = -1 := by decide
            omega
          by_cases j3 : j < 3
          · refine Or.inl ⟨k + 1, 287, nI j, nI (j + 1), 0, p5, by omega, by omega, Or.inr rfl, Or.inr (Or.inr ⟨rfl, Or.inl ⟨j + 1, by omega, by omega, rfl⟩⟩), fun W => ?_, fun rT rS_ rP rA w => ?_, ?_⟩
            · rw [leafV_w (by omega)]
              unfold LM
              rw [if_neg (nI_ne0 (by omega) (by omega)), if_neg (by decide), if_neg (show ¬ nI (j + 1) = 4 from nIne (b := 4) (by omega) (by omega) (by decide)), if_neg (show ¬ nI (j + 1) = 5 from nIne (b := 5) (by omega) (by omega) (by decide)), if_neg (show ¬ nI (j + 1) = 6 from nIne (b := 6) (by omega) (by omega) (by decide)), clm (by omega), Nat.add_sub_cancel]
            · rw [c_part0 hT hc hk h91 p5 (by omega), if_neg nb, c_116O hc (c_ow1 hT hc hk j3 e), oB_of, c_134 hc.1 (by omega), if_neg (nm j (by omega))]
            · rw [r_readPart hT hm hk h91, its1, r_35word hm.1 (nm (j + 1) (by omega)) n2, r_99ok hm kM p5 (by omega) (Or.inr (show nI (j + 1) < 4 from nI_lt (b := 4) (by omega) (by decide)))]
          · have cw := fun (cd wt : Nat → Int32) (p : Nat) => c_ow2 (p := p) (L := L) (cd := cd) (wt := wt) hT hc (show k + 1 ≤ tM t by omega) (by omega) hj e
            rcases r_99ord (nc := nc) (nl := p) (np := np) (no := no) (op := op) (ar := ar) (pl := pl) (pa := pa) hT hm kM p5 (by omega) (show 3 ≤ j by omega) hj with ⟨x, x1, x2, x3, x4, x5⟩ | ⟨x1, v, x2⟩
            · have xb : x + owB j ≤ 14 ∧ x < 8 := by
                unfold owM at x1
                unfold owB
                rcases (show j = 3 ∨ j = 4 ∨ j = 5 by omega) with rfl | rfl | rfl <;> simp at x1 ⊢ <;> omega
              refine Or.inl ⟨k + 2, 287, nI (x + owB j), nI (j + 1), nI x, p5, by omega, x4, Or.inr rfl, Or.inr (Or.inr ⟨rfl, Or.inr ?_⟩), fun W => ?_, fun rT rS_ rP rA w => ?_, ?_⟩
              · unfold owM at x1
                rcases (show j = 3 ∨ j = 4 ∨ j = 5 by omega) with rfl | rfl | rfl
                · exact Or.inl ⟨rfl, x, by omega, rfl⟩
                · exact Or.inr (Or.inl ⟨rfl, x, by simp at x1; omega, rfl⟩)
                · exact Or.inr (Or.inr ⟨rfl, x, by simp at x1; omega, rfl⟩)
              · rw [leafV_w (by omega)]
                rcases (show j = 3 ∨ j = 4 ∨ j = 5 by omega) with rfl | rfl | rfl
                · show (W (x + 3)).toInt64 = _
                  unfold LM
                  rw [if_neg (by decide), if_neg (by decide), if_pos (by decide), clm (by omega), Nat.add_comm]
                · show (W (x + 11)).toInt64 = _
                  unfold LM
                  rw [if_neg (by decide), if_neg (by decide), if_neg (by decide), if_pos (by decide), clm (by omega), Nat.add_comm]
                · show (W (x + 13)).toInt64 = _
                  unfold LM
                  rw [if_neg (by decide), if_neg (by decide), if_neg (by decide), if_neg (by decide), if_pos (by decide), clm (by omega), Nat.add_comm]
              · rw [c_part0 hT hc hk h91 p5 (by omega), if_neg nb, c_116O hc (cw cd wt (p + 1)), if_pos ⟨x2, by rw [x3]; exact nI_le x1 (by unfold owM; split <;> omega)⟩, oB_of, c_134 hc.1 (by omega), x3, nI_add, if_neg (nm _ (by omega))]
              · rw [r_readPart hT hm hk h91, its1, r_35word hm.1 (nm (j + 1) (by omega)) n2, x5]
            · refine Or.inr ⟨k + 1, p + 1, L + 1, upd cd L 287, upd wt L (-1), nc + 1, p + 1, upd op nc (nI (j + 1)), upd ar nc v, by omega, by omega, by omega, fun rT rS_ rP rA w => ?_, ?_⟩
              · rw [c_part0 hT hc hk h91 p5 (by omega), if_neg nb, c_116O hc (cw cd wt (p + 1)), if_neg x1, oB_of, c_134 hc.1 (by omega), if_pos rfl]
              · rw [r_readPart hT hm hk h91, its1, r_35word hm.1 (nm (j + 1) (by omega)) n2, x2]
        · have hw' : ∀ j, j < 6 → ¬ tK t k = nI (256 + ows.getD j 0) := fun j hj e => hw ⟨j, hj, e⟩
          have its1 : itsF true (tK t k) = -1 := by unfold itsF; rw [if_pos rfl]; exact oAt_n 6 hw'
          refine Or.inr ⟨k, p + 1, L + 1, upd cd L 287, upd wt L (-1), nc, p, op, ar, Nat.le_refl k, hk, Nat.le_refl _, fun rT rS_ rP rA w => ?_, ?_⟩
          · rw [c_part0 hT hc hk h91 p5 (by omega), if_neg nb, c_116O hc (c_owN hT hc hk hw'), oB_of, c_134 hc.1 (by omega), if_pos rfl]
          · rw [r_readPart hT hm hk h91, its1, r_35bad hm.1 (Or.inl n2), r_99bad hm (Or.inl rfl)]
  · obtain ⟨a, o, x, e⟩ := r_35any (t := t) (k := k) (nc := nc) (nl := p) (np := np) (no := no) (op := op) (ar := ar) (pl := pl) (pa := pa) hm.1 (its := itsF q (tK t k))
    refine Or.inr ⟨k, p, L, cd, wt, nc, p, op, ar, Nat.le_refl k, hk, Nat.le_refl _, fun rT rS_ rP rA w => c_partFull hT hc hk h91 (by omega) (by omega), ?_⟩
    rw [r_readPart hT hm hk h91, e, r_99bad hm (Or.inr ⟨by omega, by omega⟩)]
end
