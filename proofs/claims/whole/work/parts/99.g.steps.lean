/-! ===== the reference's turns ===== -/
section
variable {t : Tk} {q : Bool} {m : Mm} {k nc nl np no : Nat} {op ar pl pa : Nat → Int32} {tst v : Int32} {s' : Mm} {N : Nat}
set_option maxRecDepth 100000 in
theorem R_1 (hm : LXm t q m) (h : fX9_readPart (rS t m k nc nl np no op ar pl pa) 45 = some (v, s')) : rX9_readExpression_20 (N + 1) (rS t m k nc nl np no op ar pl pa) 45 tst 1 = rX9_readExpression_20 N s' 45 tst v := by
  have hs : hSh (rS t m k nc nl np no op ar pl pa) := hm.1
  show bX9_readExpression_20 (rX9_readExpression_20 N) _ 45 tst 1 = _
  unfold bX9_readExpression_20 bX9_readExpression_72
  rw [oK_of (sh45 hs), oI_of, rS_19 hm.2.2.1, if_pos rfl, if_neg (by decide), if_neg (by decide), if_pos rfl, oR_of (sh45 hs), h, oB_of]
set_option maxRecDepth 100000 in
theorem R_0 (hm : LXm t q m) (h : fX9_readPlain (rS t m k nc nl np no op ar pl pa) 45 = some (v, s')) : rX9_readExpression_20 (N + 1) (rS t m k nc nl np no op ar pl pa) 45 tst 0 = rX9_readExpression_20 N s' 45 tst v := by
  have hs : hSh (rS t m k nc nl np no op ar pl pa) := hm.1
  show bX9_readExpression_20 (rX9_readExpression_20 N) _ 45 tst 0 = _
  unfold bX9_readExpression_20 bX9_readExpression_72
  rw [oK_of (sh45 hs), oI_of, rS_19 hm.2.2.1, if_pos rfl, if_neg (by decide), if_pos rfl, oR_of (sh45 hs), h, oB_of]
set_option maxRecDepth 100000 in
theorem R_3 (hm : LXm t q m) (h : fX9_behindSum (rS t m k nc nl np no op ar pl pa) 45 tst = some (v, s')) : rX9_readExpression_20 (N + 1) (rS t m k nc nl np no op ar pl pa) 45 tst 3 = rX9_readExpression_20 N s' 45 tst v := by
  have hs : hSh (rS t m k nc nl np no op ar pl pa) := hm.1
  show bX9_readExpression_20 (rX9_readExpression_20 N) _ 45 tst 3 = _
  unfold bX9_readExpression_20 bX9_readExpression_72
  rw [oK_of (sh45 hs), oI_of, rS_19 hm.2.2.1, if_pos rfl, if_neg (by decide), if_neg (by decide), if_neg (by decide), if_pos rfl, oR_of (sh45 hs), h, oB_of]
set_option maxRecDepth 100000 in
theorem R_2 (hm : LXm t q m) (h : fX9_behindTest (rS t m k nc nl np no op ar pl pa) 45 = some (v, s')) : rX9_readExpression_20 (N + 1) (rS t m k nc nl np no op ar pl pa) 45 tst 2 = rX9_readExpression_20 N s' 45 tst v := by
  have hs : hSh (rS t m k nc nl np no op ar pl pa) := hm.1
  show bX9_readExpression_20 (rX9_readExpression_20 N) _ 45 tst 2 = _
  unfold bX9_readExpression_20 bX9_readExpression_72
  rw [oK_of (sh45 hs), oI_of, rS_19 hm.2.2.1, if_pos rfl, if_neg (by decide), if_neg (by decide), if_neg (by decide), if_neg (by decide), oR_of (sh45 hs), h, oB_of]
set_option maxRecDepth 100000 in
theorem R_4 (hm : LXm t q m) : rX9_readExpression_20 (N + 1) (rS t m k nc nl np no op ar pl pa) 45 tst 4 = bX9_readExpression_76 (rS t m k nc nl np no op ar pl pa) 45 := by
  have hs : hSh (rS t m k nc nl np no op ar pl pa) := hm.1
  show bX9_readExpression_20 (rX9_readExpression_20 N) _ 45 tst 4 = _
  unfold bX9_readExpression_20
  rw [oK_of (sh45 hs), oI_of, rS_19 hm.2.2.1, if_pos rfl, if_pos rfl]
set_option maxRecDepth 100000 in
theorem R_B (hm : hSh m) {k' : Nat} : rX9_readExpression_20 (N + 1) (rS t (mB t m k') k nc nl np no op ar pl pa) 45 tst v = bX9_readExpression_76 (rS t (mB t m k') k nc nl np no op ar pl pa) 45 := by
  have hs : hSh (rS t (mB t m k') k nc nl np no op ar pl pa) := hm
  show bX9_readExpression_20 (rX9_readExpression_20 N) _ 45 tst v = _
  unfold bX9_readExpression_20
  rw [oK_of (sh45 hs), oI_of, rS_19B, if_neg (by decide)]
set_option maxRecDepth 100000 in
theorem r_open (hm : LXm t q m) (hk : k < tM t) (hn : np < 400) (ho : no < 8) {x : Int32} : fX9_openBracket (rS t m k nc nl np no op ar pl pa) 45 x = some ((), rS t m (k + 1) nc nl (np + 1) (no + 1) op ar (upd pl np x) (upd pa np 0)) := by
  have hs : ∀ k no, hSh (rS t m k nc nl np no op ar pl pa) := fun _ _ => hm.1
  unfold fX9_openBracket bX9_openBracket_15
  rw [oK_of (sh45 (hs _ _)), oI_of, rS_30, if_neg (show ¬ (8 : Int32) ≤ nI no from nI_ge (b := 8) ho (by decide)), oR_of (sh45 (hs _ _)), r_must1 hm hk (by decide), oB_of, oK_of (sh45 (hs _ _)), oI_of, rS_19 hm.2.2.1, if_pos rfl, oK_of (sh45 (hs _ _)), oI_of, rS_30, nI_1, oK_of (sh45 (hs _ _)), oU_of, rS_no, oR_of (sh45 (hs _ _)), r_push hm.1 hn, oB_of]
set_option maxRecDepth 100000 in
theorem r_openB (hm : LXm t q m) (ho : 8 ≤ no) (ho2 : no ≤ 1000) {x : Int32} : fX9_openBracket (rS t m k nc nl np no op ar pl pa) 45 x = some ((), rS t (mB t m k) k nc nl np no op ar pl pa) := by
  have hs : hSh (rS t m k nc nl np no op ar pl pa) := hm.1
  have hB : hSh (rS t (mB t m k) k nc nl np no op ar pl pa) := hm.1
  unfold fX9_openBracket bX9_openBracket_15
  rw [oK_of (sh45 hs), oI_of, rS_30, if_pos (show (8 : Int32) ≤ nI no from nI_le (a := 8) ho (by omega)), oR_of (sh45 hs), r_must0 hm rfl, oB_of, oK_of (sh45 hB), oI_of, rS_19B, if_neg (by decide)]
set_option maxRecDepth 100000 in
theorem p_sq (hT : TkO t) (hm : LXm t q m) (hk : k ≤ tM t) (h : tK t k = 91) {z : Option (Unit × Mm)} (hz : fX9_openBracket (rS t m k nc nl np no op ar pl pa) 45 32 = z) : fX9_readPart (rS t m k nc nl np no op ar pl pa) 45 = oB z (fun _ u => some (1, u)) := by
  have hs : hSh (rS t m k nc nl np no op ar pl pa) := hm.1
  unfold fX9_readPart
  rw [oR_of (sh45 hs), r_sgY hT hm.1 hk (by decide) h, oB_of, if_neg (by decide), oR_of (sh45 hs), hz]
set_option maxRecDepth 100000 in
theorem l_not (hT : TkO t) (hm : LXm t q m) (hk : k ≤ tM t) (hn : np < 400) (h : tK t k = 271) : fX9_readPlain (rS t m k nc nl np no op ar pl pa) 45 = some (0, rS t m (k + 1) nc nl (np + 1) no op ar (upd pl np 28) (upd pa np 0)) := by
  have hs : ∀ np pl pa, hSh (rS t m k nc nl np no op ar pl pa) := fun _ _ _ => hm.1
  have kM : k < tM t := TkO_lt hT hk (by rw [h]; decide)
  unfold fX9_readPlain
  rw [oR_of (sh45 (hs _ _ _)), r_wd hT hm.1 hk (i := 15) (w := 14836) (by decide) rfl, oB_of, if_pos (show tK t k = nI (256 + 15) from h), if_neg (by decide), oR_of (sh45 (hs _ _ _)), r_push hm.1 hn, oB_of, oR_of (sh45 (hs _ _ _)), r_next hm kM, oB_of]
set_option maxRecDepth 100000 in
theorem l_rd (hT : TkO t) (hm : LXm t q m) (hk : k ≤ tM t) (h : tK t k = 40) {z : Option (Unit × Mm)} (hz : fX9_openBracket (rS t m k nc nl np no op ar pl pa) 45 31 = z) : fX9_readPlain (rS t m k nc nl np no op ar pl pa) 45 = oB z (fun _ u => some (0, u)) := by
  have hs : hSh (rS t m k nc nl np no op ar pl pa) := hm.1
  unfold fX9_readPlain
  rw [oR_of (sh45 hs), r_wd hT hm.1 hk (i := 15) (w := 14836) (by decide) rfl, oB_of, if_neg (show ¬ tK t k = nI (256 + 15) from by rw [h]; decide), if_pos rfl, oR_of (sh45 hs), r_sgY hT hm.1 hk (by decide) h, oB_of, if_neg (by decide), oR_of (sh45 hs), hz]
set_option maxRecDepth 100000 in
theorem l_part (hT : TkO t) (hm : LXm t q m) (hk : k ≤ tM t) (h1 : ¬ tK t k = 271) (h2 : ¬ tK t k = 40) (h : fX9_readPart (rS t m k nc nl np no op ar pl pa) 45 = some (v, s')) : fX9_readPlain (rS t m k nc nl np no op ar pl pa) 45 = some (v, s') := by
  have hs : hSh (rS t m k nc nl np no op ar pl pa) := hm.1
  unfold fX9_readPlain
  rw [oR_of (sh45 hs), r_wd hT hm.1 hk (i := 15) (w := 14836) (by decide) rfl, oB_of, if_neg (show ¬ tK t k = nI (256 + 15) from h1), if_pos rfl, oR_of (sh45 hs), r_sgN hT hm.1 hk (by decide) h2, oB_of, if_pos rfl, oR_of (sh45 hs), h, oB_of]
/-! behind a sum -/
abbrev isO (o : Int32) : Prop := o = 43 ∨ o = 45 ∨ o = 42 ∨ o = 47 ∨ o = 37
set_option maxRecDepth 100000 in
theorem b_71 (hT : TkO t) (hm : LXm t q m) (hk : k ≤ tM t) : fX9_behindSum (rS t m k nc nl np no op ar pl pa) 45 tst = bX9_behindSum_71 (rS t m k nc nl np no op ar pl pa) 45 tst (if isO (tK t k) then rop (tK t k) else -1) := by
  have hs : hSh (rS t m k nc nl np no op ar pl pa) := hm.1
  unfold fX9_behindSum
  by_cases c1 : tK t k = 43
  · rw [oR_of (sh45 hs), r_sgY hT hm.1 hk (by decide) c1, oB_of, if_neg (by decide), c1]; rfl
  · rw [oR_of (sh45 hs), r_sgN hT hm.1 hk (by decide) c1, oB_of, if_pos rfl]
    by_cases c2 : tK t k = 45
    · rw [oR_of (sh45 hs), r_sgY hT hm.1 hk (by decide) c2, oB_of, if_neg (by decide), c2]; rfl
    · rw [oR_of (sh45 hs), r_sgN hT hm.1 hk (by decide) c2, oB_of, if_pos rfl]
      by_cases c3 : tK t k = 42
      · rw [oR_of (sh45 hs), r_sgY hT hm.1 hk (by decide) c3, oB_of, if_neg (by decide), c3]; rfl
      · rw [oR_of (sh45 hs), r_sgN hT hm.1 hk (by decide) c3, oB_of, if_pos rfl]
        by_cases c4 : tK t k = 47
        · rw [oR_of (sh45 hs), r_sgY hT hm.1 hk (by decide) c4, oB_of, if_neg (by decide), c4]; rfl
        · rw [oR_of (sh45 hs), r_sgN hT hm.1 hk (by decide) c4, oB_of, if_pos rfl]
          by_cases c5 : tK t k = 37
          · rw [oR_of (sh45 hs), r_sgY hT hm.1 hk (by decide) c5, oB_of, if_neg (by decide), c5]; rfl
          · rw [oR_of (sh45 hs), r_sgN hT hm.1 hk (by decide) c5, oB_of, if_pos rfl, if_neg (show ¬ isO (tK t k) from fun w => by rcases w with w | w | w | w | w <;> contradiction)]
set_option maxRecDepth 100000 in
theorem b_op (hT : TkO t) (hm : LXm t q m) (hk : k ≤ tM t) {str : Int32} (ho : isO (tK t k)) (hb : bndI (rop (tK t k)) = str) {d e np0 : Nat} {op' ar' : Nat → Int32} (hP : Pops t str nc np0 d op ar pl pa e op' ar') (hd : np0 + d ≤ 400) (hp : Tp pl np0 str) (hnp : np = np0 + d) (h4 : np0 < 400) : fX9_behindSum (rS t m k nc nl np no op ar pl pa) 45 tst = some (1, rS t m (k + 1) e nl (np0 + 1) no op' ar' (upd pl np0 (rop (tK t k))) (upd pa np0 0)) := by
  have hs : ∀ np nc op ar pl pa, hSh (rS t m k nc nl np no op ar pl pa) := fun _ _ _ _ _ _ => hm.1
  have kM : k < tM t := TkO_lt hT hk (by rcases ho with w | w | w | w | w <;> rw [w] <;> decide)
  have nr : ¬ rop (tK t k) = -1 := by rcases ho with w | w | w | w | w <;> rw [w] <;> decide
  rw [b_71 hT hm hk, if_pos ho]
  unfold bX9_behindSum_71
  rw [if_neg nr, r_binds, oB_of, hb, oR_of (sh45 (hs _ _ _ _ _ _)), r_settle hm.1 hP hd hp hnp, oB_of, oR_of (sh45 (hs _ _ _ _ _ _)), r_push hm.1 h4, oB_of, oR_of (sh45 (hs _ _ _ _ _ _)), r_next hm kM, oB_of]
set_option maxRecDepth 100000 in
theorem b_close (hT : TkO t) (hm : LXm t q m) (hk : k ≤ tM t) (h93 : tK t k = 93) (hi : innF pl np = 32) {d e np0 : Nat} {op' ar' : Nat → Int32} (hP : Pops t 5 nc (np0 + 1) d op ar pl pa e op' ar') (hd : np0 + 1 + d ≤ 400) (hp : Tp pl (np0 + 1) 5) (hnp : np = np0 + 1 + d) {no0 : Nat} (hno : no = no0 + 1) : fX9_behindSum (rS t m k nc nl np no op ar pl pa) 45 tst = some (3, rS t m (k + 1) e nl np0 no0 op' ar' pl pa) := by
  have hs : ∀ k np no nc op ar, hSh (rS t m k nc nl np no op ar pl pa) := fun _ _ _ _ _ _ => hm.1
  have kM : k < tM t := TkO_lt hT hk (by rw [h93]; decide)
  rw [b_71 hT hm hk, if_neg (by rw [h93]; decide)]
  unfold bX9_behindSum_71
  subst hno
  rw [if_pos rfl, oR_of (sh45 (hs _ _ _ _ _ _)), r_inner hm.1 (by omega), oB_of, if_pos hi, oR_of (sh45 (hs _ _ _ _ _ _)), r_sgY hT hm.1 hk (by decide) h93, oB_of, oR_of (sh45 (hs _ _ _ _ _ _)), r_must1 hm kM (by decide), oB_of, oK_of (sh45 (hs _ _ _ _ _ _)), oI_of, rS_19 hm.2.2.1, if_pos rfl, oR_of (sh45 (hs _ _ _ _ _ _)), r_settle hm.1 hP hd hp hnp, oB_of, oK_of (sh45 (hs _ _ _ _ _ _)), oI_of, rS_29, nI_pred, oK_of (sh45 (hs _ _ _ _ _ _)), oU_of, rS_np, oK_of (sh45 (hs _ _ _ _ _ _)), oI_of, rS_30, nI_pred, oK_of (sh45 (hs _ _ _ _ _ _)), oU_of, rS_no]
set_option maxRecDepth 100000 in
theorem b_closeB (hT : TkO t) (hm : LXm t q m) (hk : k ≤ tM t) (ho : ¬ isO (tK t k)) (h93 : ¬ tK t k = 93) (hi : innF pl np = 32) (hn : np ≤ 400) : fX9_behindSum (rS t m k nc nl np no op ar pl pa) 45 tst = some (3, rS t (mB t m k) k nc nl np no op ar pl pa) := by
  have hs : hSh (rS t m k nc nl np no op ar pl pa) := hm.1
  have hB : hSh (rS t (mB t m k) k nc nl np no op ar pl pa) := hm.1
  rw [b_71 hT hm hk, if_neg ho]
  unfold bX9_behindSum_71
  rw [if_pos rfl, oR_of (sh45 hs), r_inner hm.1 hn, oB_of, if_pos hi, oR_of (sh45 hs), r_sgN hT hm.1 hk (by decide) h93, oB_of, oR_of (sh45 hs), r_must0 hm rfl, oB_of, oK_of (sh45 hB), oI_of, rS_19B, if_neg (by decide)]
set_option maxRecDepth 100000 in
theorem b_over (hT : TkO t) (hm : LXm t q m) (hk : k ≤ tM t) (ho : ¬ isO (tK t k)) (hi : innF pl np = -1) (hn : np ≤ 400) : fX9_behindSum (rS t m k nc nl np no op ar pl pa) 45 0 = some (4, rS t m k nc nl np no op ar pl pa) := by
  have hs : hSh (rS t m k nc nl np no op ar pl pa) := hm.1
  rw [b_71 hT hm hk, if_neg ho]
  unfold bX9_behindSum_71
  rw [if_pos rfl, oR_of (sh45 hs), r_inner hm.1 hn, oB_of, hi, if_neg (by decide), if_pos rfl, if_pos rfl]
set_option maxRecDepth 100000 in
theorem b_163 (hT : TkO t) (hm : LXm t q m) (hk : k ≤ tM t) (ho : ¬ isO (tK t k)) (hi : ¬ innF pl np = 32) (hn : np ≤ 400) : fX9_behindSum (rS t m k nc nl np no op ar pl pa) 45 1 = bX9_behindSum_163 (rS t m k nc nl np no op ar pl pa) 45 := by
  have hs : hSh (rS t m k nc nl np no op ar pl pa) := hm.1
  rw [b_71 hT hm hk, if_neg ho]
  unfold bX9_behindSum_71
  rw [if_pos rfl, oR_of (sh45 hs), r_inner hm.1 hn, oB_of, if_neg hi]
  by_cases z : innF pl np = -1
  · rw [if_pos z, if_neg (by decide)]
  · rw [if_neg z]
set_option maxRecDepth 100000 in
theorem b_told (hm : LXm t q m) (h : fX9_isCompared (rS t m k nc nl np no op ar pl pa) 45 = some (1, rS t m k nc nl np no op ar pl pa)) : bX9_behindSum_163 (rS t m k nc nl np no op ar pl pa) 45 = some (2, rS t m k nc nl np no op ar pl pa) := by
  have hs : hSh (rS t m k nc nl np no op ar pl pa) := hm.1
  unfold bX9_behindSum_163
  rw [oR_of (sh45 hs), h, oB_of, if_neg (by decide)]
abbrev isC (o : Int32) : Prop := o = 60 ∨ o = 62 ∨ o = 61
set_option maxRecDepth 100000 in
theorem b_cmp (hT : TkO t) (hm : LXm t q m) (hk : k ≤ tM t) (h : fX9_isCompared (rS t m k nc nl np no op ar pl pa) 45 = some (0, rS t m k nc nl np no op ar pl pa)) (hc : isC (tK t k)) {d e np0 : Nat} {op' ar' : Nat → Int32} (hP : Pops t 5 nc np0 d op ar pl pa e op' ar') (hd : np0 + d ≤ 400) (hp : Tp pl np0 5) (hnp : np = np0 + d) (h4 : np0 < 400) : bX9_behindSum_163 (rS t m k nc nl np no op ar pl pa) 45 = some (1, rS t m (k + 1) e nl (np0 + 1) no op' ar' (upd pl np0 (rop (tK t k))) (upd pa np0 0)) := by
  have hs : ∀ k np nc op ar pl pa, hSh (rS t m k nc nl np no op ar pl pa) := fun _ _ _ _ _ _ _ => hm.1
  have kM : k < tM t := TkO_lt hT hk (by rcases hc with w | w | w <;> rw [w] <;> decide)
  have go : ∀ x : Int32, bX9_behindSum_219 (rS t m k nc nl np no op ar pl pa) 45 x 45 = some (1, rS t m (k + 1) e nl (np0 + 1) no op' ar' (upd pl np0 x) (upd pa np0 0)) := by
    intro x
    unfold bX9_behindSum_219 bX9_behindSum_224
    rw [oR_of (sh45 (hs _ _ _ _ _ _ _)), r_must1 hm kM (by decide), oB_of, oK_of (sh45 (hs _ _ _ _ _ _ _)), oI_of, rS_19 hm.2.2.1, if_pos rfl, oR_of (sh45 (hs _ _ _ _ _ _ _)), r_settle hm.1 hP hd hp hnp, oB_of, oR_of (sh45 (hs _ _ _ _ _ _ _)), r_push hm.1 h4, oB_of]
  unfold bX9_behindSum_163 bX9_behindSum_202
  rw [oR_of (sh45 (hs _ _ _ _ _ _ _)), h, oB_of, if_pos rfl]
  rcases hc with w | w | w
  · rw [oR_of (sh45 (hs _ _ _ _ _ _ _)), r_sgY hT hm.1 hk (by decide) w, oB_of, if_neg (by decide), if_neg (by decide), go, w]; rfl
  · rw [oR_of (sh45 (hs _ _ _ _ _ _ _)), r_sgN hT hm.1 hk (by decide) (by rw [w]; decide), oB_of, if_pos rfl, oR_of (sh45 (hs _ _ _ _ _ _ _)), r_sgY hT hm.1 hk (by decide) w, oB_of, if_neg (by decide), if_neg (by decide), go, w]; rfl
  · rw [oR_of (sh45 (hs _ _ _ _ _ _ _)), r_sgN hT hm.1 hk (by decide) (by rw [w]; decide), oB_of, if_pos rfl, oR_of (sh45 (hs _ _ _ _ _ _ _)), r_sgN hT hm.1 hk (by decide) (by rw [w]; decide), oB_of, if_pos rfl, if_pos rfl, oR_of (sh45 (hs _ _ _ _ _ _ _)), r_sgY hT hm.1 hk (by decide) w, oB_of, if_neg (by decide), go, w]; rfl
set_option maxRecDepth 100000 in
theorem b_cmpB (hT : TkO t) (hm : LXm t q m) (hk : k ≤ tM t) (h : fX9_isCompared (rS t m k nc nl np no op ar pl pa) 45 = some (0, rS t m k nc nl np no op ar pl pa)) (hc : ¬ isC (tK t k)) : bX9_behindSum_163 (rS t m k nc nl np no op ar pl pa) 45 = some (1, rS t (mB t m k) k nc nl np no op ar pl pa) := by
  have hs : hSh (rS t m k nc nl np no op ar pl pa) := hm.1
  have hB : hSh (rS t (mB t m k) k nc nl np no op ar pl pa) := hm.1
  unfold bX9_behindSum_163 bX9_behindSum_202 bX9_behindSum_224
  rw [oR_of (sh45 hs), h, oB_of, if_pos rfl, oR_of (sh45 hs), r_sgN hT hm.1 hk (by decide) (fun w => hc (Or.inl w)), oB_of, if_pos rfl, oR_of (sh45 hs), r_sgN hT hm.1 hk (by decide) (fun w => hc (Or.inr (Or.inl w))), oB_of, if_pos rfl, if_pos rfl, oR_of (sh45 hs), r_sgN hT hm.1 hk (by decide) (fun w => hc (Or.inr (Or.inr w))), oB_of, if_pos rfl, oR_of (sh45 hs), r_must0 hm rfl, oB_of, oK_of (sh45 hB), oI_of, rS_19B, if_neg (by decide)]
/-! behind a test -/
set_option maxRecDepth 100000 in
theorem t_22 (hT : TkO t) (hm : LXm t q m) (hk : k ≤ tM t) {x : Int32} {str jj : Int32} (hx : (x = 0 ∧ str = 1 ∧ jj = 30) ∨ (x = 1 ∧ str = 2 ∧ jj = 29)) (kM : k < tM t) {d e np0 : Nat} {op' ar' : Nat → Int32} (hP : Pops t str nc np0 d op ar pl pa e op' ar') (hd : np0 + d ≤ 400) (hp : Tp pl np0 str) (hnp : np = np0 + d) (h4 : np0 < 400) (he : e < 400) : bX9_behindTest_22 (rS t m k nc nl np no op ar pl pa) 45 x = some (0, rS t m (k + 1) (e + 1) nl (np0 + 1) no (upd op' e jj) (upd ar' e 0) (upd pl np0 jj) (upd pa np0 (nI e))) := by
  have hs : ∀ np nc op ar pl pa, hSh (rS t m k nc nl np no op ar pl pa) := fun _ _ _ _ _ _ => hm.1
  unfold bX9_behindTest_22 bX9_behindTest_32 bX9_behindTest_47 bX9_behindTest_66
  rcases hx with ⟨rfl, rfl, rfl⟩ | ⟨rfl, rfl, rfl⟩
  · rw [if_pos rfl, oR_of (sh45 (hs _ _ _ _ _ _)), r_settle hm.1 hP hd hp hnp, oB_of, if_pos rfl, oK_of (sh45 (hs _ _ _ _ _ _)), oI_of, rS_23, oR_of (sh45 (hs _ _ _ _ _ _)), r_push hm.1 h4, oB_of, if_pos rfl, oR_of (sh45 (hs _ _ _ _ _ _)), r_emit hm.1 he, oB_of, oR_of (sh45 (hs _ _ _ _ _ _)), r_next hm kM, oB_of]
  · rw [if_neg (by decide), oR_of (sh45 (hs _ _ _ _ _ _)), r_settle hm.1 hP hd hp hnp, oB_of, if_neg (by decide), oK_of (sh45 (hs _ _ _ _ _ _)), oI_of, rS_23, oR_of (sh45 (hs _ _ _ _ _ _)), r_push hm.1 h4, oB_of, if_neg (by decide), oR_of (sh45 (hs _ _ _ _ _ _)), r_emit hm.1 he, oB_of, oR_of (sh45 (hs _ _ _ _ _ _)), r_next hm kM, oB_of]
set_option maxRecDepth 100000 in
theorem t_and (hT : TkO t) (hm : LXm t q m) (hk : k ≤ tM t) (h : tK t k = 270) {d e np0 : Nat} {op' ar' : Nat → Int32} (hP : Pops t 2 nc np0 d op ar pl pa e op' ar') (hd : np0 + d ≤ 400) (hp : Tp pl np0 2) (hnp : np = np0 + d) (h4 : np0 < 400) (he : e < 400) : fX9_behindTest (rS t m k nc nl np no op ar pl pa) 45 = some (0, rS t m (k + 1) (e + 1) nl (np0 + 1) no (upd op' e 29) (upd ar' e 0) (upd pl np0 29) (upd pa np0 (nI e))) := by
  have hs : hSh (rS t m k nc nl np no op ar pl pa) := hm.1
  unfold fX9_behindTest
  rw [oR_of (sh45 hs), r_wd hT hm.1 hk (i := 14) (w := 1476) (by decide) rfl, oB_of, if_pos (show tK t k = nI (256 + 14) from h), if_neg (by decide), t_22 hT hm hk (Or.inr ⟨rfl, rfl, rfl⟩) (TkO_lt hT hk (by rw [h]; decide)) hP hd hp hnp h4 he]
set_option maxRecDepth 100000 in
theorem t_or (hT : TkO t) (hm : LXm t q m) (hk : k ≤ tM t) (h : tK t k = 269) {d e np0 : Nat} {op' ar' : Nat → Int32} (hP : Pops t 1 nc np0 d op ar pl pa e op' ar') (hd : np0 + d ≤ 400) (hp : Tp pl np0 1) (hnp : np = np0 + d) (h4 : np0 < 400) (he : e < 400) : fX9_behindTest (rS t m k nc nl np no op ar pl pa) 45 = some (0, rS t m (k + 1) (e + 1) nl (np0 + 1) no (upd op' e 30) (upd ar' e 0) (upd pl np0 30) (upd pa np0 (nI e))) := by
  have hs : hSh (rS t m k nc nl np no op ar pl pa) := hm.1
  unfold fX9_behindTest
  rw [oR_of (sh45 hs), r_wd hT hm.1 hk (i := 14) (w := 1476) (by decide) rfl, oB_of, if_neg (show ¬ tK t k = nI (256 + 14) from by rw [h]; decide), if_pos rfl, oR_of (sh45 hs), r_wd hT hm.1 hk (i := 13) (w := 498) (by decide) rfl, oB_of, if_pos (show tK t k = nI (256 + 13) from h), if_neg (by decide), t_22 hT hm hk (Or.inl ⟨rfl, rfl, rfl⟩) (TkO_lt hT hk (by rw [h]; decide)) hP hd hp hnp h4 he]
set_option maxRecDepth 100000 in
theorem t_over (hT : TkO t) (hm : LXm t q m) (hk : k ≤ tM t) (h1 : ¬ tK t k = 270) (h2 : ¬ tK t k = 269) (hi : innF pl np = -1) (hn : np ≤ 400) : fX9_behindTest (rS t m k nc nl np no op ar pl pa) 45 = some (4, rS t m k nc nl np no op ar pl pa) := by
  have hs : hSh (rS t m k nc nl np no op ar pl pa) := hm.1
  unfold fX9_behindTest
  rw [oR_of (sh45 hs), r_wd hT hm.1 hk (i := 14) (w := 1476) (by decide) rfl, oB_of, if_neg (show ¬ tK t k = nI (256 + 14) from h1), if_pos rfl, oR_of (sh45 hs), r_wd hT hm.1 hk (i := 13) (w := 498) (by decide) rfl, oB_of, if_neg (show ¬ tK t k = nI (256 + 13) from h2), if_pos rfl, oR_of (sh45 hs), r_inner hm.1 hn, oB_of, if_pos hi]
set_option maxRecDepth 100000 in
theorem t_close (hT : TkO t) (hm : LXm t q m) (hk : k ≤ tM t) (h : tK t k = 41) (hi : ¬ innF pl np = -1) {d e np0 : Nat} {op' ar' : Nat → Int32} (hP : Pops t 1 nc (np0 + 1) d op ar pl pa e op' ar') (hd : np0 + 1 + d ≤ 400) (hp : Tp pl (np0 + 1) 1) (hnp : np = np0 + 1 + d) {no0 : Nat} (hno : no = no0 + 1) : fX9_behindTest (rS t m k nc nl np no op ar pl pa) 45 = some (2, rS t m (k + 1) e nl np0 no0 op' ar' pl pa) := by
  have hs : ∀ k np no nc op ar, hSh (rS t m k nc nl np no op ar pl pa) := fun _ _ _ _ _ _ => hm.1
  have kM : k < tM t := TkO_lt hT hk (by rw [h]; decide)
  unfold fX9_behindTest
  subst hno
  rw [oR_of (sh45 (hs _ _ _ _ _ _)), r_wd hT hm.1 hk (i := 14) (w := 1476) (by decide) rfl, oB_of, if_neg (show ¬ tK t k = nI (256 + 14) from by rw [h]; decide), if_pos rfl, oR_of (sh45 (hs _ _ _ _ _ _)), r_wd hT hm.1 hk (i := 13) (w := 498) (by decide) rfl, oB_of, if_neg (show ¬ tK t k = nI (256 + 13) from by rw [h]; decide), if_pos rfl, oR_of (sh45 (hs _ _ _ _ _ _)), r_inner hm.1 (by omega), oB_of, if_neg hi, oR_of (sh45 (hs _ _ _ _ _ _)), r_sgY hT hm.1 hk (by decide) h, oB_of, oR_of (sh45 (hs _ _ _ _ _ _)), r_must1 hm kM (by decide), oB_of, oK_of (sh45 (hs _ _ _ _ _ _)), oI_of, rS_19 hm.2.2.1, if_pos rfl, oR_of (sh45 (hs _ _ _ _ _ _)), r_settle hm.1 hP hd hp hnp, oB_of, oK_of (sh45 (hs _ _ _ _ _ _)), oI_of, rS_29, nI_pred, oK_of (sh45 (hs _ _ _ _ _ _)), oU_of, rS_np, oK_of (sh45 (hs _ _ _ _ _ _)), oI_of, rS_30, nI_pred, oK_of (sh45 (hs _ _ _ _ _ _)), oU_of, rS_no]
set_option maxRecDepth 100000 in
theorem t_closeB (hT : TkO t) (hm : LXm t q m) (hk : k ≤ tM t) (h1 : ¬ tK t k = 270) (h2 : ¬ tK t k = 269) (h : ¬ tK t k = 41) (hi : ¬ innF pl np = -1) (hn : np ≤ 400) : fX9_behindTest (rS t m k nc nl np no op ar pl pa) 45 = some (2, rS t (mB t m k) k nc nl np no op ar pl pa) := by
  have hs : hSh (rS t m k nc nl np no op ar pl pa) := hm.1
  have hB : hSh (rS t (mB t m k) k nc nl np no op ar pl pa) := hm.1
  unfold fX9_behindTest
  rw [oR_of (sh45 hs), r_wd hT hm.1 hk (i := 14) (w := 1476) (by decide) rfl, oB_of, if_neg (show ¬ tK t k = nI (256 + 14) from h1), if_pos rfl, oR_of (sh45 hs), r_wd hT hm.1 hk (i := 13) (w := 498) (by decide) rfl, oB_of, if_neg (show ¬ tK t k = nI (256 + 13) from h2), if_pos rfl, oR_of (sh45 hs), r_inner hm.1 hn, oB_of, if_neg hi, oR_of (sh45 hs), r_sgN hT hm.1 hk (by decide) h, oB_of, oR_of (sh45 hs), r_must0 hm rfl, oB_of, oK_of (sh45 hB), oI_of, rS_19B, if_neg (by decide)]
end
