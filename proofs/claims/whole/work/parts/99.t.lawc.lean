/-! ===== a clause of a law, by both ===== -/
def hdA (x : Int32) : Nat → Int32
  | 0 => -1
  | j + 1 => if x = nI (256 + j) then nI j else hdA x j
set_option maxRecDepth 100000 in
theorem hdA_s (x : Int32) (j : Nat) : hdA x (j + 1) = if x = nI (256 + j) then nI j else hdA x j := rfl
set_option maxRecDepth 100000 in
theorem hdA_y : ∀ j, j < 4 → hdA (nI (256 + j)) 4 = nI j := by decide +kernel
set_option maxRecDepth 100000 in
theorem hdA_n {x : Int32} : ∀ n, (∀ j, j < n → ¬ x = nI (256 + j)) → hdA x n = -1
  | 0, _ => rfl
  | n + 1, h => by rw [hdA_s, if_neg (h n (by omega))]; exact hdA_n n (fun j hj => h j (by omega))
set_option maxRecDepth 100000 in
theorem cs62w : ∀ j, j < 4 → cs62.getD j 0 = wdc.getD j 0 := by decide +kernel
/-- what reading changes of the reference, beside what rS says -/
def BFr (m m' : Mm) : Prop := mQ m' = mQ m ∧ mK m' = mK m ∧ mR m' = mR m ∧ mL m' = mL m ∧ (∀ a, a ≠ 45 → a ≠ 55 → a ≠ 69 → mI m' a = mI m a) ∧ (∀ j, j ≠ 18 → j ≠ 19 → j ≠ 21 → mI m' 45 j = mI m 45 j)
set_option maxRecDepth 100000 in
theorem BFr_rfl {m : Mm} : BFr m m := ⟨rfl, rfl, rfl, rfl, fun _ _ _ _ => rfl, fun _ _ _ _ => rfl⟩
set_option maxRecDepth 100000 in
theorem BFr_trans {m n o : Mm} (h : BFr m n) (k : BFr n o) : BFr m o := ⟨k.1.trans h.1, k.2.1.trans h.2.1, k.2.2.1.trans h.2.2.1, k.2.2.2.1.trans h.2.2.2.1, fun a h1 h2 h3 => (k.2.2.2.2.1 a h1 h2 h3).trans (h.2.2.2.2.1 a h1 h2 h3), fun j h1 h2 h3 => (k.2.2.2.2.2 j h1 h2 h3).trans (h.2.2.2.2.2 j h1 h2 h3)⟩
set_option maxRecDepth 100000 in
theorem BFr_55 {m : Mm} {f : Nat → Int32} : BFr m (wI m 55 f) := ⟨rfl, rfl, rfl, rfl, fun a _ h2 _ => by rw [mI_wI, if_neg h2], fun _ _ _ _ => rfl⟩
set_option maxRecDepth 100000 in
theorem BFr_69 {m : Mm} {f : Nat → Int32} : BFr m (wI m 69 f) := ⟨rfl, rfl, rfl, rfl, fun a _ _ h3 => by rw [mI_wI, if_neg h3], fun _ _ _ _ => rfl⟩
set_option maxRecDepth 100000 in
theorem BFr_21 {m : Mm} {x : Int32} : BFr m (wI m 45 (upd (mI m 45) 21 x)) := ⟨rfl, rfl, rfl, rfl, fun a h1 _ _ => by rw [mI_wI, if_neg h1], fun j _ _ h3 => pk_un h3⟩
set_option maxRecDepth 100000 in
theorem BFr_B {t : Tk} {m : Mm} {k : Nat} : BFr m (mB t m k) := ⟨rfl, rfl, rfl, rfl, fun a h1 _ _ => by unfold mB; rw [mI_wI, if_neg h1], fun j h1 h2 _ => by
  show upd (upd (mI m 45) 19 1) 18 (nI (tS t k)) j = mI m 45 j
  rw [pk_un h1, pk_un h2]⟩
set_option maxRecDepth 100000 in
theorem BFr_sh {m m' : Mm} (k : BFr m m') (h : hSh m) : hSh m' := by
  unfold hSh at h ⊢
  rw [k.1, k.2.1, k.2.2.1]; exact h
/-- the reference has found a fault, whatever else is there -/
def Bad9 (t : Tk) (m s : Mm) (k' : Nat) : Prop := ∃ m' k nc nl np no op ar pl pa, s = rS t m' k nc nl np no op ar pl pa ∧ BFr m m' ∧ mI m' 45 19 = 1 ∧ mI m' 45 18 = nI (tS t k')
/-- what reading a clause changes of the class, beside what cS says -/
def CFr (c c' : Mm) (n : Nat) : Prop := mQ c' = mQ c ∧ mK c' = mK c ∧ mR c' = mR c ∧ mL c' = mL c ∧ (∀ a, a ≠ 23 → a ≠ 26 → a ≠ 27 → a ≠ 28 → mI c' a = mI c a) ∧ (∀ j, j ≠ 6 → mI c' 23 j = mI c 23 j) ∧ mI c' 23 6 = nI (n + 1) ∧ (∀ i, i ≠ n → mI c' 26 i = mI c 26 i) ∧ (∀ i, i ≠ n → mI c' 27 i = mI c 27 i) ∧ (∀ i, i < 4 * n → mI c' 28 i = mI c 28 i)
set_option maxRecDepth 100000 in
theorem CFr_bCl {c : Mm} {n : Nat} {x : Int32} : CFr c (bCl c n x) n := by
  refine ⟨rfl, rfl, rfl, rfl, fun a h1 h2 h3 h4 => ?_, fun j hj => ?_, ?_, fun i hi => ?_, fun i hi => ?_, fun i hi => ?_⟩
  · unfold bCl
    rw [mI_wI, if_neg h1, mI_wI, if_neg h4, mI_wI, if_neg h3, mI_wI, if_neg h2]
  · show upd (mI c 23) 6 (nI (n + 1)) j = _
    rw [pk_un hj]
  · show upd (mI c 23) 6 (nI (n + 1)) 6 = _
    rw [pk_us]
  · show upd (mI c 26) n x i = _
    rw [pk_un hi]
  · show upd (mI c 27) n 1 i = _
    rw [pk_un hi]
  · show stF (mI c 28) n 4 i = _
    unfold stF
    rw [if_neg (by omega)]
set_option maxRecDepth 100000 in
theorem CFr_28 {c c' : Mm} {n j : Nat} {x : Int32} (h : CFr c c' n) : CFr c (wI c' 28 (upd (mI c' 28) (4 * n + j) x)) n := by
  obtain ⟨h1, h2, h3, h4, h5, h6, h7, h8, h9, h10⟩ := h
  refine ⟨h1, h2, h3, h4, fun a a1 a2 a3 a4 => ?_, h6, h7, h8, h9, fun i hi => ?_⟩
  · rw [mI_wI, if_neg a4]; exact h5 a a1 a2 a3 a4
  · show upd (mI c' 28) (4 * n + j) x i = _
    rw [pk_un (by omega)]; exact h10 i hi
set_option maxRecDepth 100000 in
theorem CFr_27 {c c' : Mm} {n : Nat} {x : Int32} (h : CFr c c' n) : CFr c (wI c' 27 (upd (mI c' 27) n x)) n := by
  obtain ⟨h1, h2, h3, h4, h5, h6, h7, h8, h9, h10⟩ := h
  refine ⟨h1, h2, h3, h4, fun a a1 a2 a3 a4 => ?_, h6, h7, h8, fun i hi => ?_, h10⟩
  · rw [mI_wI, if_neg a3]; exact h5 a a1 a2 a3 a4
  · show upd (mI c' 27) n x i = _
    rw [pk_un hi]; exact h9 i hi
set_option maxRecDepth 100000 in
theorem CFr_LX {t : Tk} {q : Bool} {c c' : Mm} {n : Nat} (k : CFr c c' n) (h : LXc t q c) : LXc t q c' := by
  have hs : hSh c' := by
    have h1 := h.1
    unfold hSh at h1 ⊢
    rw [k.1, k.2.1, k.2.2.1]; exact h1
  have e := k.2.2.2.2.1
  refine ⟨hs, ?_, ?_⟩
  · rw [e 20 (by decide) (by decide) (by decide) (by decide), e 21 (by decide) (by decide) (by decide) (by decide), e 22 (by decide) (by decide) (by decide) (by decide)]; exact h.2.1
  · rw [e 19 (by decide) (by decide) (by decide) (by decide)]; exact h.2.2
section
variable {t : Tk} {q : Bool} {c m : Mm} {k nc nl np no n : Nat} {op ar pl pa : Nat → Int32}
set_option maxRecDepth 100000 in
theorem rS_55u {i : Nat} {x : Int32} : wI (rS t m k nc nl np no op ar pl pa) 55 (upd (mI (rS t m k nc nl np no op ar pl pa) 55) i x) = rS t (wI m 55 (upd (mI m 55) i x)) k nc nl np no op ar pl pa := rS_b (by decide)
set_option maxRecDepth 100000 in
theorem rS_21u {x : Int32} : wI (rS t m k nc nl np no op ar pl pa) 45 (upd (mI (rS t m k nc nl np no op ar pl pa) 45) 21 x) = rS t (wI m 45 (upd (mI m 45) 21 x)) k nc nl np no op ar pl pa := rS_j (by decide)
set_option maxRecDepth 100000 in
theorem rS_21 : mI (rS t m k nc nl np no op ar pl pa) 45 21 = mI m 45 21 := rfl
set_option maxRecDepth 100000 in
theorem rS_19' : mI (rS t m k nc nl np no op ar pl pa) 45 19 = mI m 45 19 := rfl
set_option maxRecDepth 100000 in
theorem r_headgo (hT : TkO t) (hm : hSh m) (hk : k ≤ tM t) {N : Nat} : ∀ (r j : Nat), j + r = 4 → rX9_readLaw_4 (N + r + 1) (rS t m k nc nl np no op ar pl pa) 45 (hdA (tK t k) j) (nI j) = (if hdA (tK t k) 4 = -1 then bX9_readLaw_53 (rS t m k nc nl np no op ar pl pa) 45 (hdA (tK t k) 4) 45 else if 12 ≤ mI m 45 21 then bX9_readLaw_53 (rS t m k nc nl np no op ar pl pa) 45 (hdA (tK t k) 4) 45 else bX9_readLaw_54 (rS t m k nc nl np no op ar pl pa) 45 (hdA (tK t k) 4) 1 45) := by
  have hs : hSh (rS t m k nc nl np no op ar pl pa) := hm
  intro r
  induction r with
  | zero =>
    intro j hj
    have e : j = 4 := by omega
    subst e
    show bX9_readLaw_4 _ _ 45 _ _ = _
    unfold bX9_readLaw_4
    rw [if_pos (show (4 : Int32) ≤ nI 4 from Int32.le_refl _), oK_of (sh45 hs), oI_of, rS_21]
  | succ r ih =>
    intro j hj
    have i1 := ih (j + 1) (by omega)
    show bX9_readLaw_4 (rX9_readLaw_4 (N + r + 1)) _ 45 _ _ = _
    unfold bX9_readLaw_4 bX9_readLaw_27
    rw [if_neg (show ¬ (4 : Int32) ≤ nI j from nI_ge (b := 4) (by omega) (by decide)), oK_of (sh45 hs), rf45_33 hs, oNn_of, oA_k (sh62 hs) (by omega) (by decide), oJ_of, clm (by omega), oR_of (sh45 hs), r_wd hT hm hk (i := j) (by omega) ((cw62 hs (by omega)).trans (cs62w j (by omega))), oB_of, nI_1]
    rw [hdA_s (tK t k) j] at i1
    by_cases z : tK t k = nI (256 + j)
    · rw [if_pos z, if_neg (by decide)]
      rw [if_pos z] at i1
      exact i1
    · rw [if_neg z, if_pos rfl]
      rw [if_neg z] at i1
      exact i1
set_option maxRecDepth 100000 in
theorem r_readLaw (hT : TkO t) (hm : hSh m) (hk : k ≤ tM t) : fX9_readLaw (rS t m k nc nl np no op ar pl pa) 45 = (if hdA (tK t k) 4 = -1 then bX9_readLaw_53 (rS t m k nc nl np no op ar pl pa) 45 (hdA (tK t k) 4) 45 else if 12 ≤ mI m 45 21 then bX9_readLaw_53 (rS t m k nc nl np no op ar pl pa) 45 (hdA (tK t k) 4) 45 else bX9_readLaw_54 (rS t m k nc nl np no op ar pl pa) 45 (hdA (tK t k) 4) 1 45) := by
  have h := r_headgo (nc := nc) (nl := nl) (np := np) (no := no) (op := op) (ar := ar) (pl := pl) (pa := pa) hT hm hk (N := 999995) 4 0 (by omega)
  unfold fX9_readLaw
  rw [show hwF = 999995 + 4 + 1 from rfl]
  exact h
set_option maxRecDepth 100000 in
theorem r_54bad (hm : LXm t q m) {x : Int32} : bX9_readLaw_53 (rS t m k nc nl np no op ar pl pa) 45 x 45 = some ((), rS t (mB t m k) k nc nl np no op ar pl pa) := by
  have hs : hSh (rS t m k nc nl np no op ar pl pa) := hm.1
  have hB : hSh (rS t (mB t m k) k nc nl np no op ar pl pa) := hm.1
  unfold bX9_readLaw_53 bX9_readLaw_54
  rw [oR_of (sh45 hs), r_must0 hm rfl, oB_of, oK_of (sh45 hB), oI_of, rS_19B, if_neg (by decide)]
def zF (f : Nat → Int32) (w n r : Nat) : Nat → Int32 := fun i => if w * n ≤ i ∧ i < w * n + r then 0 else f i
set_option maxRecDepth 100000 in
theorem zF_u {f : Nat → Int32} {w n r : Nat} : upd (zF f w n r) (w * n + r) 0 = zF f w n (r + 1) := by
  funext i
  unfold zF
  by_cases z : i = w * n + r
  · subst z; rw [pk_us, if_pos (by omega)]
  · rw [pk_un z]
    by_cases y : w * n ≤ i ∧ i < w * n + r
    · rw [if_pos y, if_pos (by omega)]
    · rw [if_neg y, if_neg (by omega)]
def mA (m : Mm) (n nc : Nat) (hd : Int32) : Mm := wI (wI (wI m 55 (upd (zF (mI m 55) 8 n 8) (8 * n) hd)) 45 (upd (mI m 45) 21 (nI (n + 1)))) 55 (upd (upd (zF (mI m 55) 8 n 8) (8 * n) hd) (8 * n + 3) (nI nc))
set_option maxRecDepth 100000 in
theorem r_75 (hm : hSh m) (hn : n < 12) (h21 : mI m 45 21 = nI n) {hd : Int32} {N : Nat} : ∀ d r, r + d = 8 → rX9_readLaw_75 (N + d + 1) (rS t (wI m 55 (zF (mI m 55) 8 n r)) k nc nl np no op ar pl pa) 45 hd (nI (8 * n)) (nI r) = (if hd = 3 then bX9_readLaw_135 (rS t (mA m n nc hd) k nc nl np no op ar pl pa) 45 (nI (8 * n)) else oB (fX9_readExpression (rS t (mA m n nc hd) k nc nl np no op ar pl pa) 45 0) (fun _ u26 => bX9_readLaw_135 u26 45 (nI (8 * n)))) := by
  have hs : ∀ m', hSh m' → hSh (rS t m' k nc nl np no op ar pl pa) := fun _ h => h
  have h1 : ∀ g, hSh (wI m 55 g) := fun _ => hm
  have h2 : ∀ g g', hSh (wI (wI m 55 g) 45 g') := fun _ _ => hm
  have hA : hSh (mA m n nc hd) := hm
  intro d
  induction d with
  | zero =>
    intro r hr
    have e : r = 8 := by omega
    subst e
    show bX9_readLaw_75 _ _ 45 hd (nI (8 * n)) (nI 8) = _
    unfold bX9_readLaw_75
    have e21 : mI (rS t (wI m 55 (upd (zF (mI m 55) 8 n 8) (8 * n) hd)) k nc nl np no op ar pl pa) 45 21 = nI n := h21
    have ew : wI (wI m 55 (zF (mI m 55) 8 n 8)) 55 (upd (mI (wI m 55 (zF (mI m 55) 8 n 8)) 55) (8 * n) hd) = wI m 55 (upd (zF (mI m 55) 8 n 8) (8 * n) hd) := by
      show wI (wI m 55 (zF (mI m 55) 8 n 8)) 55 (upd (zF (mI m 55) 8 n 8) (8 * n) hd) = _
      rw [wI_s]
    have ix : nI (8 * n) + 3 = nI (8 * n + 3) := nI_add (8 * n) 3
    rw [if_pos (by decide), oK_of (sh45 (hs _ (h1 _))), rf45_22 (hs _ (h1 _)), oNn_of, oA_k (sh55 (hs _ (h1 _))) (by omega) (by decide), clm (by omega), oU_of, rS_55u, ew, oK_of (sh45 (hs _ (h1 _))), oI_of, e21, nI_1, oK_of (sh45 (hs _ (h1 _))), oU_of, rS_21u, oK_of (sh45 (hs _ (h2 _ _))), rf45_22 (hs _ (h2 _ _)), oNn_of, oK_of (sh45 (hs _ (h2 _ _))), oI_of, rS_23, ix, oA_k (sh55 (hs _ (h2 _ _))) (by omega) (by decide), clm (by omega), oU_of, rS_55u]
    by_cases z : hd = 3
    · rw [if_pos z, if_pos z]; rfl
    · rw [if_neg z, if_neg z]
      exact oR_of (sh45 (hs _ hA))
  | succ d ih =>
    intro r hr
    show bX9_readLaw_75 (rX9_readLaw_75 (N + d + 1)) _ 45 hd (nI (8 * n)) (nI r) = _
    unfold bX9_readLaw_75
    rw [if_neg (show ¬ (8 : Int32) ≤ nI r from nI_ge (b := 8) (by omega) (by decide)), oK_of (sh45 (hs _ (h1 _))), rf45_22 (hs _ (h1 _)), oNn_of, nI_add, oA_k (sh55 (hs _ (h1 _))) (by omega) (by decide), clm (by omega), oU_of, rS_55u, nI_1]
    have e : wI (wI m 55 (zF (mI m 55) 8 n r)) 55 (upd (mI (wI m 55 (zF (mI m 55) 8 n r)) 55) (8 * n + r) 0) = wI m 55 (zF (mI m 55) 8 n (r + 1)) := by
      show wI (wI m 55 (zF (mI m 55) 8 n r)) 55 (upd (zF (mI m 55) 8 n r) (8 * n + r) 0) = _
      rw [wI_s, zF_u]
    rw [e]
    exact ih (r + 1) (by omega)
set_option maxRecDepth 100000 in
theorem r_54ok (hm : LXm t q m) (hk : k < tM t) (hn : n < 12) (h21 : mI m 45 21 = nI n) {hd : Int32} : bX9_readLaw_54 (rS t m k nc nl np no op ar pl pa) 45 hd 1 45 = (if hd = 3 then bX9_readLaw_135 (rS t (mA m n nc hd) (k + 1) nc nl np no op ar pl pa) 45 (nI (8 * n)) else oB (fX9_readExpression (rS t (mA m n nc hd) (k + 1) nc nl np no op ar pl pa) 45 0) (fun _ u26 => bX9_readLaw_135 u26 45 (nI (8 * n)))) := by
  have hs : ∀ k, hSh (rS t m k nc nl np no op ar pl pa) := fun _ => hm.1
  have lp := r_75 (t := t) (k := k + 1) (nc := nc) (nl := nl) (np := np) (no := no) (op := op) (ar := ar) (pl := pl) (pa := pa) hm.1 hn h21 (hd := hd) (N := 999991) 8 0 (by decide)
  have z0 : zF (mI m 55) 8 n 0 = mI m 55 := by funext i; unfold zF; rw [if_neg (by omega)]
  rw [z0, wI_id] at lp
  unfold bX9_readLaw_54
  have e8 : (8 : Int32) * nI n = nI (8 * n) := by rw [show (8 : Int32) = nI 8 from rfl, nI_mul]
  rw [oR_of (sh45 (hs _)), r_must1 hm hk (by decide), oB_of, oK_of (sh45 (hs _)), oI_of, rS_19 hm.2.2.1, if_pos rfl, oK_of (sh45 (hs _)), oI_of, rS_21, h21, oI_of, e8]
  exact lp
set_option maxRecDepth 100000 in
theorem r_185 (hm : hSh m) (hn : n < 12) : bX9_readLaw_185 (rS t m k nc nl np no op ar pl pa) 45 (nI (8 * n)) = some ((), rS t (wI m 55 (upd (mI m 55) (8 * n + 6) (nI nc))) k nc nl np no op ar pl pa) := by
  have hs : hSh (rS t m k nc nl np no op ar pl pa) := hm
  have ix : nI (8 * n) + 6 = nI (8 * n + 6) := nI_add (8 * n) 6
  unfold bX9_readLaw_185
  rw [oK_of (sh45 hs), rf45_22 hs, oNn_of, oK_of (sh45 hs), oI_of, rS_23, ix, oA_k (sh55 hs) (by omega) (by decide), clm (by omega), oU_of, rS_55u]
def mD (m : Mm) (n nc : Nat) : Mm := wI (wI m 55 (upd (mI m 55) (8 * n + 4) (nI nc))) 55 (upd (upd (mI m 55) (8 * n + 4) (nI nc)) (8 * n + 5) (nI nc))
set_option maxRecDepth 100000 in
theorem r_135 (hm : hSh m) (hn : n < 12) : bX9_readLaw_135 (rS t m k nc nl np no op ar pl pa) 45 (nI (8 * n)) = (if mI m 45 19 = 0 then oB (fX9_isWord (rS t (mD m n nc) k nc nl np no op ar pl pa) 45 294) (fun v22 u23 => (if (v22 : Int32) = 0 then bX9_readLaw_185 u23 45 (nI (8 * n)) else oR u23 45 9 (oB (fX9_next u23 45) (fun _ u24 => oR u24 45 9 (oB (fX9_readExpression u24 45 1) (fun _ u25 => bX9_readLaw_185 u25 45 (nI (8 * n)))))))) else bX9_readLaw_185 (rS t (mD m n nc) k nc nl np no op ar pl pa) 45 (nI (8 * n))) := by
  have hs : ∀ m', hSh m' → hSh (rS t m' k nc nl np no op ar pl pa) := fun _ h => h
  have h1 : ∀ g, hSh (wI m 55 g) := fun _ => hm
  have hD : hSh (mD m n nc) := hm
  have i4 : nI (8 * n) + 4 = nI (8 * n + 4) := nI_add (8 * n) 4
  have i5 : nI (8 * n) + 5 = nI (8 * n + 5) := nI_add (8 * n) 5
  have eD : rS t (wI (wI m 55 (upd (mI m 55) (8 * n + 4) (nI nc))) 55 (upd (mI (wI m 55 (upd (mI m 55) (8 * n + 4) (nI nc))) 55) (8 * n + 5) (nI nc))) k nc nl np no op ar pl pa = rS t (mD m n nc) k nc nl np no op ar pl pa := rfl
  unfold bX9_readLaw_135
  rw [oK_of (sh45 (hs _ hm)), rf45_22 (hs _ hm), oNn_of, oK_of (sh45 (hs _ hm)), oI_of, rS_23, i4, oA_k (sh55 (hs _ hm)) (by omega) (by decide), clm (by omega), oU_of, rS_55u, oK_of (sh45 (hs _ (h1 _))), rf45_22 (hs _ (h1 _)), oNn_of, oK_of (sh45 (hs _ (h1 _))), oI_of, rS_23, i5, oA_k (sh55 (hs _ (h1 _))) (by omega) (by decide), clm (by omega), oU_of, rS_55u, eD, oK_of (sh45 (hs _ hD)), oI_of, show mI (rS t (mD m n nc) k nc nl np no op ar pl pa) 45 19 = mI m 45 19 from rfl, oR_of (sh45 (hs _ hD))]
end
