/-! ===== the readers' small steps ===== -/
def sgs : List Int32 := [91, 93, 40, 41, 43, 45, 42, 47, 37, 60, 61, 62, 59]
def wdc : List Int64 := [19039379, 3657363, 6460563, 67155, 55182443, 20194516, 631287, 525939, 52, 89, 655, 21279923, 294, 498, 1476, 14836, 631941, 116807086, 402885, 13486, 212147, 660095385, 676774066, 632046, 4153, 441828, 146885, 404362868]
/-- what both say of the tokens fits together -/
def TkO (t : Tk) : Prop := tM t ≤ 400 ∧ (∀ j, j ≤ tM t → ∀ x, x ∈ sgs → ((tO t j = 3 ∧ tW t j = Int32.toInt64 x) ↔ tK t j = x)) ∧ (∀ j, j ≤ tM t → ∀ i, i < 28 → ((tO t j = 1 ∧ tW t j = wdc.getD i 0) ↔ tK t j = nI (256 + i)))
  ∧ (∀ j, j ≤ tM t → (tO t j = 2 ↔ tK t j = 285) ∧ (tK t j = 285 → (∃ x, x ≤ 1000 ∧ tV t j = nI x ∧ tW t j = w64 x) ∨ (tV t j = nI 1001 ∧ ∃ y, 1000 < y ∧ y < 2147483648 ∧ tW t j = w64 y)) ∧ (tK t j ≠ 285 → tV t j = 0))
  ∧ (∀ j, j < tM t → tK t j ≠ 286) ∧ tK t (tM t) = 286 ∧ (∀ j, j ≤ tM t → (tO t j = 0 ↔ j = tM t)) ∧ ∀ j, j ≤ tM t → tS t j ≤ 400
def LXc (t : Tk) (q : Bool) (c : Mm) : Prop := hSh c ∧ (∀ j, j ≤ tM t → mI c 20 j = tK t j ∧ mI c 21 j = tV t j ∧ mI c 22 j = nI (tS t j)) ∧ mI c 19 6 = if q = true then 0 else 1
def LXm (t : Tk) (q : Bool) (m : Mm) : Prop := hSh m ∧ (mI m 45 20 = if q = true then 1 else 0) ∧ mI m 45 19 = 0 ∧ ∀ k nc nl np no op ar pl pa, k < tM t → fX9_next (rS t m k nc nl np no op ar pl pa) 45 = some ((), rS t m (k + 1) nc nl np no op ar pl pa)
section
variable {t : Tk} {q : Bool} {c m : Mm} {k p L nc nl np no : Nat} {cd wt op ar pl pa : Nat → Int32}
set_option maxRecDepth 100000 in
theorem TkO_lt (hT : TkO t) (hk : k ≤ tM t) (h : tK t k ≠ 286) : k < tM t := by
  rcases Nat.lt_or_eq_of_le hk with a | a
  · exact a
  · rw [a] at h; exact absurd hT.2.2.2.2.2.1 h
set_option maxRecDepth 100000 in
theorem cS_sh (hc : LXc t q c) : hSh (cS c k p L cd wt) := hc.1
set_option maxRecDepth 100000 in
theorem rS_sh (hm : hSh m) : hSh (rS t m k nc nl np no op ar pl pa) := hm
set_option maxRecDepth 100000 in
theorem cS_4 : mI (cS c k p L cd wt) 19 4 = nI k := rfl
set_option maxRecDepth 100000 in
theorem cS_5 : mI (cS c k p L cd wt) 19 5 = nI p := rfl
set_option maxRecDepth 100000 in
theorem cS_2 : mI (cS c k p L cd wt) 23 2 = nI L := rfl
set_option maxRecDepth 100000 in
theorem cS_6 (hc : LXc t q c) : mI (cS c k p L cd wt) 19 6 = if q = true then 0 else 1 := hc.2.2
set_option maxRecDepth 100000 in
theorem cS_K (hc : LXc t q c) (hk : k ≤ tM t) : mI (cS c k p L cd wt) 20 k = tK t k := (hc.2.1 k hk).1
set_option maxRecDepth 100000 in
theorem cS_V (hc : LXc t q c) (hk : k ≤ tM t) : mI (cS c k p L cd wt) 21 k = tV t k := (hc.2.1 k hk).2.1
set_option maxRecDepth 100000 in
theorem cS_P (hc : LXc t q c) (hk : k ≤ tM t) : mI (cS c k p L cd wt) 22 k = nI (tS t k) := (hc.2.1 k hk).2.2
set_option maxRecDepth 100000 in
theorem rS_14 : mI (rS t m k nc nl np no op ar pl pa) 45 14 = nI (tS t k) := rfl
set_option maxRecDepth 100000 in
theorem rS_16 : mI (rS t m k nc nl np no op ar pl pa) 45 16 = tO t k := rfl
set_option maxRecDepth 100000 in
theorem rS_17 : mL (rS t m k nc nl np no op ar pl pa) 45 17 = tW t k := rfl
set_option maxRecDepth 100000 in
theorem rS_23 : mI (rS t m k nc nl np no op ar pl pa) 45 23 = nI nc := rfl
set_option maxRecDepth 100000 in
theorem rS_26 : mI (rS t m k nc nl np no op ar pl pa) 45 26 = nI nl := rfl
set_option maxRecDepth 100000 in
theorem rS_29 : mI (rS t m k nc nl np no op ar pl pa) 45 29 = nI np := rfl
set_option maxRecDepth 100000 in
theorem rS_30 : mI (rS t m k nc nl np no op ar pl pa) 45 30 = nI no := rfl
set_option maxRecDepth 100000 in
theorem rS_19 (h : mI m 45 19 = 0) : mI (rS t m k nc nl np no op ar pl pa) 45 19 = 0 := h
set_option maxRecDepth 100000 in
theorem rS_20 (hm : LXm t q m) : mI (rS t m k nc nl np no op ar pl pa) 45 20 = if q = true then 1 else 0 := hm.2.1
set_option maxRecDepth 100000 in
theorem rS_19B {k' : Nat} : mI (rS t (mB t m k') k nc nl np no op ar pl pa) 45 19 = 1 := rfl
set_option maxRecDepth 100000 in
theorem rS_56 {j : Nat} : mI (rS t m k nc nl np no op ar pl pa) 56 j = op j := rfl
set_option maxRecDepth 100000 in
theorem rS_57 {j : Nat} : mI (rS t m k nc nl np no op ar pl pa) 57 j = ar j := rfl
set_option maxRecDepth 100000 in
theorem rS_58 {j : Nat} : mI (rS t m k nc nl np no op ar pl pa) 58 j = pl j := rfl
set_option maxRecDepth 100000 in
theorem rS_59 {j : Nat} : mI (rS t m k nc nl np no op ar pl pa) 59 j = pa j := rfl
/-! the class's -/
set_option maxRecDepth 100000 in
theorem c_skip (hT : TkO t) (hc : LXc t q c) (hk : k ≤ tM t) {x : Int32} (hx : ¬ x = 286) : fX4_skip (cS c k p L cd wt) 19 x = some (if tK t k = x then 1 else 0, cS c (if tK t k = x then k + 1 else k) p L cd wt) := by
  have hs : hSh (cS c k p L cd wt) := hc.1
  have h4 := hT.1
  unfold fX4_skip
  rw [oK_of (sh19 hs), rf19_0 hs, oNn_of, oK_of (sh19 hs), oI_of, cS_4, oA_k (sh20 hs) (by omega) (by decide), oI_of, clm (by omega), cS_K hc hk]
  by_cases h : tK t k = x
  · rw [if_pos h, if_neg hx, oK_of (sh19 hs), oI_of, nI_1, oK_of (sh19 hs), oU_of, cS_here, oZ1, if_pos h, if_pos h]
  · rw [if_neg h, oZ0, if_neg h, if_neg h]
set_option maxRecDepth 100000 in
theorem c_skipY (hT : TkO t) (hc : LXc t q c) (hk : k ≤ tM t) {x : Int32} (hx : ¬ x = 286) (h : tK t k = x) : fX4_skip (cS c k p L cd wt) 19 x = some (1, cS c (k + 1) p L cd wt) := by
  rw [c_skip hT hc hk hx, if_pos h, if_pos h]
set_option maxRecDepth 100000 in
theorem c_skipN (hT : TkO t) (hc : LXc t q c) (hk : k ≤ tM t) {x : Int32} (hx : ¬ x = 286) (h : ¬ tK t k = x) : fX4_skip (cS c k p L cd wt) 19 x = some (0, cS c k p L cd wt) := by
  rw [c_skip hT hc hk hx, if_neg h, if_neg h]
set_option maxRecDepth 100000 in
theorem cS_cdu {n : Nat} {o : Int32} : wI (cS c k p L cd wt) 24 (upd (mI (cS c k p L cd wt) 24) n o) = cS c k p L (upd cd n o) wt := cS_cd
set_option maxRecDepth 100000 in
theorem cS_wtu {n : Nat} {o : Int32} : wI (cS c k p L cd wt) 25 (upd (mI (cS c k p L cd wt) 25) n o) = cS c k p L cd (upd wt n o) := cS_wt
set_option maxRecDepth 100000 in
theorem c_put (hc : hSh c) (hL : L < 401) {o w : Int32} : fX6_put (cS c k p L cd wt) 23 o w = some ((), cS c k p (L + 1) (upd cd L o) (upd wt L w)) := by
  have hs : ∀ (L : Nat) (cd wt : Nat → Int32), hSh (cS c k p L cd wt) := fun _ _ _ => hc
  have e : ¬ Int32.ofNat (mK (cS c k p L cd wt) 24).2 ≤ nI L := by rw [sh24 (hs _ _ _)]; exact nI_ge (b := 401) hL (by decide)
  unfold fX6_put
  rw [oK_of (sh23 (hs _ _ _)), oI_of, cS_2, oK_of (sh23 (hs _ _ _)), rf23_0 (hs _ _ _), oNn_of, oL_of (sh24 (hs _ _ _)), if_neg e, oK_of (sh23 (hs _ _ _)), oNn_of, oK_of (sh23 (hs _ _ _)), oI_of, oA_k (sh24 (hs _ _ _)) hL (by decide), clm (by omega), oU_of, cS_cdu, oK_of (sh23 (hs _ _ _)), rf23_1 (hs _ _ _), oNn_of, oK_of (sh23 (hs _ _ _)), oI_of, cS_2, oA_k (sh25 (hs _ _ _)) hL (by decide), clm (by omega), oU_of, cS_wtu, oK_of (sh23 (hs _ _ _)), oI_of, cS_2, nI_1, oK_of (sh23 (hs _ _ _)), oU_of, cS_len]
/-! the reference's -/
set_option maxRecDepth 100000 in
theorem r_sign (hm : hSh m) {x : Int32} : fX9_isSign (rS t m k nc nl np no op ar pl pa) 45 x = some (if tO t k = 3 ∧ tW t k = Int32.toInt64 x then 1 else 0, rS t m k nc nl np no op ar pl pa) := by
  have hs : hSh (rS t m k nc nl np no op ar pl pa) := hm
  unfold fX9_isSign bX9_isSign_23
  rw [oK_of (sh45 hs), oI_of, rS_16]
  by_cases a : tO t k = 3
  · rw [if_pos a, oK_of (sh45 hs), oJ_of, rS_17]
    by_cases b : tW t k = Int32.toInt64 x
    · rw [if_pos ((lg_eq _ _).mpr b), oZ1, if_pos ⟨a, b⟩]
    · rw [if_neg (fun z => b ((lg_eq _ _).mp z)), oZ0, if_neg (fun z => b z.2)]
  · rw [if_neg a, oZ0, if_neg (fun z => a z.1)]
set_option maxRecDepth 100000 in
theorem r_sg (hT : TkO t) (hm : hSh m) (hk : k ≤ tM t) {x : Int32} (hx : x ∈ sgs) : fX9_isSign (rS t m k nc nl np no op ar pl pa) 45 x = some (if tK t k = x then 1 else 0, rS t m k nc nl np no op ar pl pa) := by
  rw [r_sign hm]
  have h := hT.2.1 k hk x hx
  by_cases z : tK t k = x
  · rw [if_pos z, if_pos (h.mpr z)]
  · rw [if_neg z, if_neg (fun y => z (h.mp y))]
set_option maxRecDepth 100000 in
theorem r_sgY (hT : TkO t) (hm : hSh m) (hk : k ≤ tM t) {x : Int32} (hx : x ∈ sgs) (h : tK t k = x) : fX9_isSign (rS t m k nc nl np no op ar pl pa) 45 x = some (1, rS t m k nc nl np no op ar pl pa) := by
  rw [r_sg hT hm hk hx, if_pos h]
set_option maxRecDepth 100000 in
theorem r_sgN (hT : TkO t) (hm : hSh m) (hk : k ≤ tM t) {x : Int32} (hx : x ∈ sgs) (h : ¬ tK t k = x) : fX9_isSign (rS t m k nc nl np no op ar pl pa) 45 x = some (0, rS t m k nc nl np no op ar pl pa) := by
  rw [r_sg hT hm hk hx, if_neg h]
set_option maxRecDepth 100000 in
theorem r_wd (hT : TkO t) (hm : hSh m) (hk : k ≤ tM t) {i : Nat} (hi : i < 28) {w : Int64} (hw : w = wdc.getD i 0) : fX9_isWord (rS t m k nc nl np no op ar pl pa) 45 w = some (if tK t k = nI (256 + i) then 1 else 0, rS t m k nc nl np no op ar pl pa) := by
  have hs : hSh (rS t m k nc nl np no op ar pl pa) := hm
  have h := hT.2.2.1 k hk i hi
  rw [← hw] at h
  unfold fX9_isWord bX9_isWord_22
  rw [oK_of (sh45 hs), oI_of, rS_16]
  by_cases a : tO t k = 1
  · rw [if_pos a, oK_of (sh45 hs), oJ_of, rS_17]
    by_cases b : tW t k = w
    · rw [if_pos ((lg_eq _ _).mpr b), oZ1, if_pos (h.mp ⟨a, b⟩)]
    · rw [if_neg (fun z => b ((lg_eq _ _).mp z)), oZ0, if_neg (fun z => b (h.mpr z).2)]
  · rw [if_neg a, oZ0, if_neg (fun z => a (h.mpr z).1)]
set_option maxRecDepth 100000 in
theorem r_next (hm : LXm t q m) (hk : k < tM t) : fX9_next (rS t m k nc nl np no op ar pl pa) 45 = some ((), rS t m (k + 1) nc nl np no op ar pl pa) := hm.2.2.2 k nc nl np no op ar pl pa hk
set_option maxRecDepth 100000 in
theorem r_must1 (hm : LXm t q m) (hk : k < tM t) {x : Int32} (hx : ¬ x = 0) : fX9_must (rS t m k nc nl np no op ar pl pa) 45 x = some ((), rS t m (k + 1) nc nl np no op ar pl pa) := by
  have hs : hSh (rS t m k nc nl np no op ar pl pa) := hm.1
  unfold fX9_must bX9_must_24
  rw [oK_of (sh45 hs), oI_of, rS_19 hm.2.2.1, if_pos rfl, if_neg hx, oK_of (sh45 hs), oI_of, if_pos rfl, oR_of (sh45 hs), r_next hm hk, oB_of]
set_option maxRecDepth 100000 in
theorem r_must0 (hm : LXm t q m) {x : Int32} (hx : x = 0) : fX9_must (rS t m k nc nl np no op ar pl pa) 45 x = some ((), rS t (mB t m k) k nc nl np no op ar pl pa) := by
  have hs : hSh (rS t m k nc nl np no op ar pl pa) := hm.1
  have h1 : ∀ g, hSh (wI (rS t m k nc nl np no op ar pl pa) 45 g) := fun _ => hs
  have h2 : hSh (rS t (mB t m k) k nc nl np no op ar pl pa) := hm.1
  have e14 : mI (wI (rS t m k nc nl np no op ar pl pa) 45 (upd (mI (rS t m k nc nl np no op ar pl pa) 45) 19 1)) 45 14 = nI (tS t k) := rfl
  have e45 : mI (wI (rS t m k nc nl np no op ar pl pa) 45 (upd (mI (rS t m k nc nl np no op ar pl pa) 45) 19 1)) 45 = upd (mI (rS t m k nc nl np no op ar pl pa) 45) 19 1 := rfl
  unfold fX9_must
  rw [oK_of (sh45 hs), oI_of, rS_19 hm.2.2.1, if_pos rfl, if_pos hx, oK_of (sh45 hs), oZ1, oU_of, oK_of (sh45 (h1 _)), oI_of, e14, oK_of (sh45 (h1 _)), oU_of, e45, rS_bad]
  unfold bX9_must_24
  rw [oK_of (sh45 h2), oI_of, rS_19B, if_neg (by decide)]
set_option maxRecDepth 100000 in
theorem rS_opu {n : Nat} {o : Int32} : wI (rS t m k nc nl np no op ar pl pa) 56 (upd (mI (rS t m k nc nl np no op ar pl pa) 56) n o) = rS t m k nc nl np no (upd op n o) ar pl pa := rS_op
set_option maxRecDepth 100000 in
theorem rS_aru {n : Nat} {o : Int32} : wI (rS t m k nc nl np no op ar pl pa) 57 (upd (mI (rS t m k nc nl np no op ar pl pa) 57) n o) = rS t m k nc nl np no op (upd ar n o) pl pa := rS_ar
set_option maxRecDepth 100000 in
theorem rS_plu {n : Nat} {o : Int32} : wI (rS t m k nc nl np no op ar pl pa) 58 (upd (mI (rS t m k nc nl np no op ar pl pa) 58) n o) = rS t m k nc nl np no op ar (upd pl n o) pa := rS_pl
set_option maxRecDepth 100000 in
theorem rS_pau {n : Nat} {o : Int32} : wI (rS t m k nc nl np no op ar pl pa) 59 (upd (mI (rS t m k nc nl np no op ar pl pa) 59) n o) = rS t m k nc nl np no op ar pl (upd pa n o) := rS_pa
set_option maxRecDepth 100000 in
theorem r_emit (hm : hSh m) (h : nc < 400) {o x : Int32} : fX9_emit (rS t m k nc nl np no op ar pl pa) 45 o x = some ((), rS t m k (nc + 1) nl np no (upd op nc o) (upd ar nc x) pl pa) := by
  have hs : ∀ (op ar : Nat → Int32), hSh (rS t m k nc nl np no op ar pl pa) := fun _ _ => hm
  unfold fX9_emit
  rw [oK_of (sh45 (hs _ _)), rf45_24 (hs _ _), oNn_of, oK_of (sh45 (hs _ _)), oI_of, rS_23, oA_k (sh56 (hs _ _)) h (by decide), clm (by omega), oU_of, rS_opu, oK_of (sh45 (hs _ _)), rf45_25 (hs _ _), oNn_of, oK_of (sh45 (hs _ _)), oI_of, rS_23, oA_k (sh57 (hs _ _)) h (by decide), clm (by omega), oU_of, rS_aru, oK_of (sh45 (hs _ _)), oI_of, rS_23, nI_1, oK_of (sh45 (hs _ _)), oU_of, rS_nc]
set_option maxRecDepth 100000 in
theorem r_push (hm : hSh m) (h : np < 400) {o x : Int32} : fX9_push (rS t m k nc nl np no op ar pl pa) 45 o x = some ((), rS t m k nc nl (np + 1) no op ar (upd pl np o) (upd pa np x)) := by
  have hs : ∀ (pl pa : Nat → Int32), hSh (rS t m k nc nl np no op ar pl pa) := fun _ _ => hm
  unfold fX9_push
  rw [oK_of (sh45 (hs _ _)), rf45_27 (hs _ _), oNn_of, oK_of (sh45 (hs _ _)), oI_of, rS_29, oA_k (sh58 (hs _ _)) h (by decide), clm (by omega), oU_of, rS_plu, oK_of (sh45 (hs _ _)), rf45_28 (hs _ _), oNn_of, oK_of (sh45 (hs _ _)), oI_of, rS_29, oA_k (sh59 (hs _ _)) h (by decide), clm (by omega), oU_of, rS_pau, oK_of (sh45 (hs _ _)), oI_of, rS_29, nI_1, oK_of (sh45 (hs _ _)), oU_of, rS_np]
def bndI (x : Int32) : Int32 := if x < 31 then (if x = 30 then 1 else if x = 29 then 2 else if x = 28 then 3 else if x < 25 then (if x < 22 then 5 else 6) else 4) else 0
set_option maxRecDepth 100000 in
theorem r_binds (u : Mm) (x : Int32) : fX9_binds u x = some (bndI x, u) := by
  unfold fX9_binds bX9_binds_62 bndI
  by_cases c1 : x < 31
  · rw [if_pos c1, if_pos c1]
    by_cases c2 : x = 30
    · rw [if_pos c2, if_pos c2]
    · rw [if_neg c2, if_neg c2]
      by_cases c3 : x = 29
      · rw [if_pos c3, if_pos c3]
      · rw [if_neg c3, if_neg c3]
        by_cases c4 : x = 28
        · rw [if_pos c4, if_pos c4]
        · rw [if_neg c4, if_neg c4]
          by_cases c5 : x < 25
          · rw [if_pos c5, if_pos c5]
            by_cases c6 : x < 22
            · rw [if_pos c6, if_pos c6]
            · rw [if_neg c6, if_neg c6]
          · rw [if_neg c5, if_neg c5]
  · rw [if_neg c1, if_neg c1]
def Tp (pl : Nat → Int32) (np : Nat) (s : Int32) : Prop := np = 0 ∨ bndI (pl (np - 1)) < s
set_option maxRecDepth 100000 in
theorem r_stop (hm : hSh m) (h : np ≤ 400) {x : Int32} (hx : Tp pl np x) {N : Nat} : rX9_settle_0 (N + 1) (rS t m k nc nl np no op ar pl pa) 45 x = some ((), rS t m k nc nl np no op ar pl pa) := by
  have hs : hSh (rS t m k nc nl np no op ar pl pa) := hm
  show bX9_settle_0 (rX9_settle_0 N) (rS t m k nc nl np no op ar pl pa) 45 x = _
  unfold bX9_settle_0
  rw [oK_of (sh45 hs), oI_of, rS_29]
  rcases hx with z | z
  · subst z
    rw [if_pos (by decide)]
  · by_cases z0 : np = 0
    · subst z0
      rw [if_pos (by decide)]
    · obtain ⟨j, rfl⟩ : ∃ j, np = j + 1 := ⟨np - 1, by omega⟩
      rw [if_neg (nI_nle (by omega) (by omega)), oK_of (sh45 hs), rf45_27 hs, oNn_of, oK_of (sh45 hs), oI_of, nI_pred, oA_k (sh58 hs) (by omega) (by decide), oI_of, clm (by omega), rS_58, r_binds, oB_of, if_pos (show bndI (pl j) < x from z)]
set_option maxRecDepth 100000 in
theorem r_pop (hm : hSh m) (h : np < 400) {x : Int32} (hx : ¬ bndI (pl np) < x) (h1 : ¬ pl np = 29) (h2 : ¬ pl np = 30) (hn : nc < 400) {N : Nat} : rX9_settle_0 (N + 1) (rS t m k nc nl (np + 1) no op ar pl pa) 45 x = rX9_settle_0 N (rS t m k (nc + 1) nl np no (upd op nc (pl np)) (upd ar nc 0) pl pa) 45 x := by
  have hs : ∀ np, hSh (rS t m k nc nl np no op ar pl pa) := fun _ => hm
  show bX9_settle_0 (rX9_settle_0 N) (rS t m k nc nl (np + 1) no op ar pl pa) 45 x = _
  unfold bX9_settle_0
  rw [oK_of (sh45 (hs _)), oI_of, rS_29, if_neg (nI_nle (by omega) (by omega)), oK_of (sh45 (hs _)), rf45_27 (hs _), oNn_of, oK_of (sh45 (hs _)), oI_of, nI_pred, oA_k (sh58 (hs _)) (by omega) (by decide), oI_of, clm (by omega), rS_58, r_binds, oB_of, if_neg hx, oK_of (sh45 (hs _)), oI_of, rS_29, nI_pred, oK_of (sh45 (hs _)), oU_of, rS_np, oK_of (sh45 (hs _)), rf45_27 (hs _), oNn_of, oK_of (sh45 (hs _)), oI_of, rS_29, oA_k (sh58 (hs _)) (by omega) (by decide), oI_of, clm (by omega), rS_58, if_neg h1, oK_of (sh45 (hs _)), oNn_of, oK_of (sh45 (hs _)), oI_of, oA_k (sh58 (hs _)) (by omega) (by decide), oI_of, clm (by omega), rS_58, if_neg h2, oK_of (sh45 (hs _)), oNn_of, oK_of (sh45 (hs _)), oI_of, oA_k (sh58 (hs _)) (by omega) (by decide), oI_of, clm (by omega), rS_58, oR_of (sh45 (hs _)), r_emit hm hn, oB_of]
set_option maxRecDepth 100000 in
theorem r_popj (hm : hSh m) (h : np < 400) {x : Int32} (hx : ¬ bndI (pl np) < x) (h1 : pl np = 29 ∨ pl np = 30) {y : Nat} (hy : pa np = nI y) (hy4 : y < 400) {N : Nat} : rX9_settle_0 (N + 1) (rS t m k nc nl (np + 1) no op ar pl pa) 45 x = rX9_settle_0 N (rS t m k nc nl np no op (upd ar y (nI nc)) pl pa) 45 x := by
  have hs : ∀ np, hSh (rS t m k nc nl np no op ar pl pa) := fun _ => hm
  have h63 : bX9_settle_63 (rX9_settle_0 N) (rS t m k nc nl np no op ar pl pa) 45 x = rX9_settle_0 N (rS t m k nc nl np no op (upd ar y (nI nc)) pl pa) 45 x := by
    unfold bX9_settle_63
    rw [oK_of (sh45 (hs _)), rf45_25 (hs _), oNn_of, oK_of (sh45 (hs _)), rf45_28 (hs _), oNn_of, oK_of (sh45 (hs _)), oI_of, rS_29, oA_k (sh59 (hs _)) h (by decide), oI_of, clm (by omega), rS_59, hy, oK_of (sh45 (hs _)), oI_of, rS_23, oA_k (sh57 (hs _)) hy4 (by decide), clm (by omega), oU_of, rS_aru]
  show bX9_settle_0 (rX9_settle_0 N) (rS t m k nc nl (np + 1) no op ar pl pa) 45 x = _
  unfold bX9_settle_0
  rw [oK_of (sh45 (hs _)), oI_of, rS_29, if_neg (nI_nle (by omega) (by omega)), oK_of (sh45 (hs _)), rf45_27 (hs _), oNn_of, oK_of (sh45 (hs _)), oI_of, nI_pred, oA_k (sh58 (hs _)) (by omega) (by decide), oI_of, clm (by omega), rS_58, r_binds, oB_of, if_neg hx, oK_of (sh45 (hs _)), oI_of, rS_29, nI_pred, oK_of (sh45 (hs _)), oU_of, rS_np, oK_of (sh45 (hs _)), rf45_27 (hs _), oNn_of, oK_of (sh45 (hs _)), oI_of, rS_29, oA_k (sh58 (hs _)) (by omega) (by decide), oI_of, clm (by omega), rS_58]
  by_cases z : pl np = 29
  · rw [if_pos z, h63]
  · rw [if_neg z, oK_of (sh45 (hs _)), oNn_of, oK_of (sh45 (hs _)), oI_of, oA_k (sh58 (hs _)) (by omega) (by decide), oI_of, clm (by omega), rS_58, if_pos (h1.resolve_left z), h63]
/-- popped, whatever is asked for up to str -/
def Pops (t : Tk) (str : Int32) (nc np0 d : Nat) (op ar pl pa : Nat → Int32) (e : Nat) (op' ar' : Nat → Int32) : Prop := ∀ (m : Mm) (k nl no : Nat) (x : Int32) (N : Nat), hSh m → x ≤ str → rX9_settle_0 (N + d) (rS t m k nc nl (np0 + d) no op ar pl pa) 45 x = rX9_settle_0 N (rS t m k e nl np0 no op' ar' pl pa) 45 x
set_option maxRecDepth 100000 in
theorem Pops_0 {str : Int32} : Pops t str nc np 0 op ar pl pa nc op ar := fun _ _ _ _ _ _ _ _ => rfl
set_option maxRecDepth 100000 in
theorem Pops_le {lo hi : Int32} {d e : Nat} {op' ar' : Nat → Int32} (h : Pops t hi nc np d op ar pl pa e op' ar') (hl : lo ≤ hi) : Pops t lo nc np d op ar pl pa e op' ar' := fun m k nl no x N hm hx => h m k nl no x N hm (Int32.le_trans hx hl)
set_option maxRecDepth 100000 in
theorem Pops_trans {str : Int32} {d1 d2 e e2 : Nat} {op' ar' op2 ar2 : Nat → Int32} (h : Pops t str nc (np + d2) d1 op ar pl pa e op' ar') (h2 : Pops t str e np d2 op' ar' pl pa e2 op2 ar2) : Pops t str nc np (d2 + d1) op ar pl pa e2 op2 ar2 := fun m k nl no x N hm hx => by
  have a := h m k nl no x (N + d2) hm hx
  rw [show np + (d2 + d1) = np + d2 + d1 by omega, show N + (d2 + d1) = N + d2 + d1 by omega, a]
  exact h2 m k nl no x N hm hx
set_option maxRecDepth 100000 in
theorem not_lt_le {a b x : Int32} (h : ¬ a < b) (hx : x ≤ b) : ¬ a < x := fun z => h (Int32.lt_of_lt_of_le z hx)
set_option maxRecDepth 100000 in
theorem Pops_1 {str : Int32} (h : np < 400) (hn : nc < 400) (hb : ¬ bndI (pl np) < str) (h1 : ¬ pl np = 29) (h2 : ¬ pl np = 30) : Pops t str nc np 1 op ar pl pa (nc + 1) (upd op nc (pl np)) (upd ar nc 0) := fun _ _ _ _ _ _ hm hx => r_pop hm h (not_lt_le hb hx) h1 h2 hn
set_option maxRecDepth 100000 in
theorem Pops_j {str : Int32} (h : np < 400) {y : Nat} (hb : ¬ bndI (pl np) < str) (h1 : pl np = 29 ∨ pl np = 30) (hy : pa np = nI y) (hy4 : y < 400) : Pops t str nc np 1 op ar pl pa nc op (upd ar y (nI nc)) := fun _ _ _ _ _ _ hm hx => r_popj hm h (not_lt_le hb hx) h1 hy hy4
set_option maxRecDepth 100000 in
/-- settled -/
theorem r_settle (hm : hSh m) {str : Int32} {d e np0 : Nat} {op' ar' : Nat → Int32} (h : Pops t str nc np0 d op ar pl pa e op' ar') (hd : np0 + d ≤ 400) (hp : Tp pl np0 str) (hnp : np = np0 + d) : fX9_settle (rS t m k nc nl np no op ar pl pa) 45 str = some ((), rS t m k e nl np0 no op' ar' pl pa) := by
  subst hnp
  unfold fX9_settle
  rw [show hwF = 999999 - d + 1 + d by unfold hwF; omega, h m k nl no str (999999 - d + 1) hm (Int32.le_refl _), r_stop hm (by omega) hp]
/-- the innermost bracket -/
def innF (pl : Nat → Int32) : Nat → Int32
  | 0 => -1
  | j + 1 => if pl j < 31 then innF pl j else pl j
set_option maxRecDepth 100000 in
theorem innF_s (pl : Nat → Int32) (j : Nat) : innF pl (j + 1) = if pl j < 31 then innF pl j else pl j := rfl
set_option maxRecDepth 100000 in
theorem r_inngo (hm : hSh m) (hn : np ≤ 400) {N : Nat} : ∀ (r j : Nat), j + r = np → rX9_inner_4 (N + r + 1) (rS t m k nc nl np no op ar pl pa) 45 (innF pl j) (nI j) = some (innF pl np, rS t m k nc nl np no op ar pl pa) := by
  have hs : hSh (rS t m k nc nl np no op ar pl pa) := hm
  intro r
  induction r with
  | zero =>
    intro j hj
    have e : j = np := by omega
    subst e
    show bX9_inner_4 _ _ 45 _ _ = _
    unfold bX9_inner_4
    rw [oK_of (sh45 hs), oI_of, rS_29, if_pos (Int32.le_refl _)]
  | succ r ih =>
    intro j hj
    show bX9_inner_4 (rX9_inner_4 (N + r + 1)) _ 45 _ _ = _
    unfold bX9_inner_4 bX9_inner_33
    rw [oK_of (sh45 hs), oI_of, rS_29, if_neg (nI_ge (by omega) (by omega)), oK_of (sh45 hs), rf45_27 hs, oNn_of, oA_k (sh58 hs) (by omega) (by decide), oI_of, clm (by omega), rS_58, nI_1]
    have i1 := ih (j + 1) (by omega)
    rw [innF_s pl j] at i1
    by_cases z : pl j < 31
    · rw [if_pos z]
      rw [if_pos z] at i1
      exact i1
    · rw [if_neg z, oK_of (sh45 hs), oNn_of, oA_k (sh58 hs) (by omega) (by decide), oI_of]
      rw [if_neg z] at i1
      exact i1
set_option maxRecDepth 100000 in
theorem r_inner (hm : hSh m) (hn : np ≤ 400) : fX9_inner (rS t m k nc nl np no op ar pl pa) 45 = some (innF pl np, rS t m k nc nl np no op ar pl pa) := by
  have h := r_inngo (t := t) (k := k) (nc := nc) (nl := nl) (no := no) (op := op) (ar := ar) (pl := pl) (pa := pa) hm hn (N := 999999 - np) np 0 (by omega)
  unfold fX9_inner
  rw [show hwF = 999999 - np + np + 1 by unfold hwF; omega]
  exact h
set_option maxRecDepth 100000 in
/-- whether the sum is behind a comparison -/
theorem r_cmp36 (hm : hSh m) {i : Nat} (hi : i ≤ 400) : bX9_isCompared_36 (rS t m k nc nl np no op ar pl pa) 45 (tpI i) = some (if i = 0 then 0 else if 25 ≤ pl (i - 1) ∧ pl (i - 1) ≤ 27 then 1 else 0, rS t m k nc nl np no op ar pl pa) := by
  have hs : hSh (rS t m k nc nl np no op ar pl pa) := hm
  unfold bX9_isCompared_36 bX9_isCompared_64
  by_cases z : i = 0
  · subst z
    rw [if_pos (by decide), if_pos rfl, oZ0]
  · obtain ⟨j, rfl⟩ : ∃ j, i = j + 1 := ⟨i - 1, by omega⟩
    rw [tpI_s, if_neg (nI_pos (by omega)), oK_of (sh45 hs), rf45_27 hs, oNn_of, oA_k (sh58 hs) (by omega) (by decide), oI_of, clm (by omega), rS_58, m_inI _ (pl j) 25 27 (l := 25) (h := 27) rfl rfl, oB_of, if_neg z, Nat.add_sub_cancel]
    by_cases y : 25 ≤ pl j ∧ pl j ≤ 27
    · rw [if_pos y, if_neg (by decide), oZ1]
    · rw [if_neg y, if_pos rfl, oZ0]
set_option maxRecDepth 100000 in
theorem r_cmpgo (hm : hSh m) {i N : Nat} (h0 : i = 0 ∨ ¬ (20 ≤ pl (i - 1) ∧ pl (i - 1) ≤ 24)) : ∀ d : Nat, i + d ≤ 400 → (∀ j, i ≤ j → j < i + d → 20 ≤ pl j ∧ pl j ≤ 24) → rX9_isCompared_7 (N + d + 1) (rS t m k nc nl np no op ar pl pa) 45 (tpI (i + d)) = some (if i = 0 then 0 else if 25 ≤ pl (i - 1) ∧ pl (i - 1) ≤ 27 then 1 else 0, rS t m k nc nl np no op ar pl pa) := by
  have hs : hSh (rS t m k nc nl np no op ar pl pa) := hm
  intro d
  induction d with
  | zero =>
    intro hi _
    show bX9_isCompared_7 _ _ 45 (tpI i) = _
    unfold bX9_isCompared_7
    by_cases z : i = 0
    · subst z
      rw [if_pos (by decide), r_cmp36 hm hi]
    · have h1 := h0.resolve_left z
      obtain ⟨j, rfl⟩ : ∃ j, i = j + 1 := ⟨i - 1, by omega⟩
      rw [Nat.add_sub_cancel] at h1
      have e := r_cmp36 (t := t) (k := k) (nc := nc) (nl := nl) (np := np) (no := no) (op := op) (ar := ar) (pl := pl) (pa := pa) hm (i := j + 1) hi
      rw [tpI_s] at e ⊢
      rw [if_neg (nI_pos (by omega)), oK_of (sh45 hs), rf45_27 hs, oNn_of, oA_k (sh58 hs) (by omega) (by decide), oI_of, clm (by omega), rS_58, m_inI _ (pl j) 20 24 (l := 20) (h := 24) rfl rfl, oB_of, if_neg h1, if_pos rfl, e]
  | succ d ih =>
    intro hi hp
    have hp0 := hp (i + d) (by omega) (by omega)
    show bX9_isCompared_7 (rX9_isCompared_7 (N + d + 1)) _ 45 (tpI (i + d + 1)) = _
    unfold bX9_isCompared_7
    rw [tpI_s, if_neg (nI_pos (by omega)), oK_of (sh45 hs), rf45_27 hs, oNn_of, oA_k (sh58 hs) (by omega) (by decide), oI_of, clm (by omega), rS_58, m_inI _ (pl (i + d)) 20 24 (l := 20) (h := 24) rfl rfl, oB_of, if_pos hp0, if_neg (by decide), show nI (i + d) + (-1) = tpI (i + d) from (Int32.sub_eq_add_neg _ _).symm]
    exact ih (by omega) (fun j j1 j2 => hp j j1 (by omega))
set_option maxRecDepth 100000 in
theorem r_comp (hm : hSh m) {i d : Nat} (h0 : i = 0 ∨ ¬ (20 ≤ pl (i - 1) ∧ pl (i - 1) ≤ 24)) (hn : np = i + d) (hi : np ≤ 400) (hp : ∀ j, i ≤ j → j < np → 20 ≤ pl j ∧ pl j ≤ 24) : fX9_isCompared (rS t m k nc nl np no op ar pl pa) 45 = some (if i = 0 then 0 else if 25 ≤ pl (i - 1) ∧ pl (i - 1) ≤ 27 then 1 else 0, rS t m k nc nl np no op ar pl pa) := by
  have hs : hSh (rS t m k nc nl np no op ar pl pa) := hm
  subst hn
  have e := r_cmpgo (t := t) (k := k) (nc := nc) (nl := nl) (np := i + d) (no := no) (op := op) (ar := ar) (pl := pl) (pa := pa) hm (N := 999999 - d) h0 d hi hp
  unfold fX9_isCompared
  rw [oK_of (sh45 hs), oI_of, rS_29, oI_of, show hwF = 999999 - d + d + 1 by unfold hwF; omega]
  exact e
/-! words -/
def pAt (x : Int32) : Nat → Int32
  | 0 => -1
  | j + 1 => if x = nI (272 + j) then nI (j + 1) else pAt x j
set_option maxRecDepth 100000 in
theorem pAt_s (x : Int32) (j : Nat) : pAt x (j + 1) = if x = nI (272 + j) then nI (j + 1) else pAt x j := rfl
set_option maxRecDepth 100000 in
theorem cs60w : ∀ j, j < 10 → cs60.getD j 0 = wdc.getD (16 + j) 0 := by decide +kernel
set_option maxRecDepth 100000 in
theorem r_partgo (hT : TkO t) (hm : hSh m) (hk : k ≤ tM t) {N : Nat} : ∀ (r j : Nat), j + r = 10 → rX9_partAt_4 (N + r + 1) (rS t m k nc nl np no op ar pl pa) 45 (pAt (tK t k) j) (nI j) = some (pAt (tK t k) 10, rS t m k nc nl np no op ar pl pa) := by
  have hs : hSh (rS t m k nc nl np no op ar pl pa) := hm
  intro r
  induction r with
  | zero =>
    intro j hj
    have e : j = 10 := by omega
    subst e
    show bX9_partAt_4 _ _ 45 _ _ = _
    unfold bX9_partAt_4
    rw [if_pos (show (10 : Int32) ≤ nI 10 from Int32.le_refl _)]
  | succ r ih =>
    intro j hj
    have i1 := ih (j + 1) (by omega)
    show bX9_partAt_4 (rX9_partAt_4 (N + r + 1)) _ 45 _ _ = _
    unfold bX9_partAt_4 bX9_partAt_30
    rw [if_neg (show ¬ (10 : Int32) ≤ nI j from nI_ge (b := 10) (by omega) (by decide)), oK_of (sh45 hs), rf45_31 hs, oNn_of, oA_k (sh60 hs) (by omega) (by decide), oJ_of, clm (by omega), oR_of (sh45 hs), r_wd hT hm hk (i := 16 + j) (by omega) ((cw60 hs (by omega)).trans (cs60w j (by omega))), oB_of, nI_1, show 256 + (16 + j) = 272 + j by omega]
    rw [pAt_s (tK t k) j] at i1
    by_cases z : tK t k = nI (272 + j)
    · rw [if_pos z, if_neg (by decide)]
      rw [if_pos z] at i1
      exact i1
    · rw [if_neg z, if_pos rfl]
      rw [if_neg z] at i1
      exact i1
set_option maxRecDepth 100000 in
theorem r_partAt (hT : TkO t) (hm : hSh m) (hk : k ≤ tM t) : fX9_partAt (rS t m k nc nl np no op ar pl pa) 45 = some (pAt (tK t k) 10, rS t m k nc nl np no op ar pl pa) := by
  have h := r_partgo (nc := nc) (nl := nl) (np := np) (no := no) (op := op) (ar := ar) (pl := pl) (pa := pa) hT hm hk (N := 999989) 10 0 (by omega)
  unfold fX9_partAt
  rw [show hwF = 999989 + 10 + 1 from rfl]
  exact h
def ows : List Nat := [24, 26, 27, 18, 21, 22]
def oAt (x : Int32) : Nat → Int32
  | 0 => -1
  | j + 1 => if x = nI (256 + ows.getD j 0) then nI (j + 1) else oAt x j
set_option maxRecDepth 100000 in
theorem oAt_s (x : Int32) (j : Nat) : oAt x (j + 1) = if x = nI (256 + ows.getD j 0) then nI (j + 1) else oAt x j := rfl
set_option maxRecDepth 100000 in
theorem cs61w : ∀ j, j < 6 → cs61.getD j 0 = wdc.getD (ows.getD j 0) 0 := by decide +kernel
set_option maxRecDepth 100000 in
theorem ows_lt : ∀ j, j < 6 → ows.getD j 0 < 28 := by decide +kernel
set_option maxRecDepth 100000 in
theorem r_opartgo (hT : TkO t) (hm : hSh m) (hk : k ≤ tM t) {N : Nat} : ∀ (r j : Nat), j + r = 6 → rX9_orderPartAt_4 (N + r + 1) (rS t m k nc nl np no op ar pl pa) 45 (oAt (tK t k) j) (nI j) = some (oAt (tK t k) 6, rS t m k nc nl np no op ar pl pa) := by
  have hs : hSh (rS t m k nc nl np no op ar pl pa) := hm
  intro r
  induction r with
  | zero =>
    intro j hj
    have e : j = 6 := by omega
    subst e
    show bX9_orderPartAt_4 _ _ 45 _ _ = _
    unfold bX9_orderPartAt_4
    rw [if_pos (show (6 : Int32) ≤ nI 6 from Int32.le_refl _)]
  | succ r ih =>
    intro j hj
    have i1 := ih (j + 1) (by omega)
    show bX9_orderPartAt_4 (rX9_orderPartAt_4 (N + r + 1)) _ 45 _ _ = _
    unfold bX9_orderPartAt_4 bX9_orderPartAt_30
    rw [if_neg (show ¬ (6 : Int32) ≤ nI j from nI_ge (b := 6) (by omega) (by decide)), oK_of (sh45 hs), rf45_32 hs, oNn_of, oA_k (sh61 hs) (by omega) (by decide), oJ_of, clm (by omega), oR_of (sh45 hs), r_wd hT hm hk (i := ows.getD j 0) (ows_lt j (by omega)) ((cw61 hs (by omega)).trans (cs61w j (by omega))), oB_of, nI_1]
    rw [oAt_s (tK t k) j] at i1
    by_cases z : tK t k = nI (256 + ows.getD j 0)
    · rw [if_pos z, if_neg (by decide)]
      rw [if_pos z] at i1
      exact i1
    · rw [if_neg z, if_pos rfl]
      rw [if_neg z] at i1
      exact i1
set_option maxRecDepth 100000 in
theorem r_opartAt (hT : TkO t) (hm : hSh m) (hk : k ≤ tM t) : fX9_orderPartAt (rS t m k nc nl np no op ar pl pa) 45 = some (oAt (tK t k) 6, rS t m k nc nl np no op ar pl pa) := by
  have h := r_opartgo (nc := nc) (nl := nl) (np := np) (no := no) (op := op) (ar := ar) (pl := pl) (pa := pa) hT hm hk (N := 999993) 6 0 (by omega)
  unfold fX9_orderPartAt
  rw [show hwF = 999993 + 6 + 1 from rfl]
  exact h
end
