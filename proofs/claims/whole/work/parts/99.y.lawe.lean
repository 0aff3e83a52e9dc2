/-! ===== the end of a law's text, by both ===== -/
def eT (s : Mm) : Mm := wI s 45 (upd (upd (mI s 45) 20 0) 13 0)
set_option maxRecDepth 100000 in
theorem MdF_eT {s : Mm} : MdF s (eT s) := by
  refine ⟨rfl, rfl, rfl, fun _ _ => rfl, fun a h1 _ _ => ?_, fun j hj => ?_⟩
  · unfold eT; rw [mI_wI, if_neg h1]
  · show upd (upd (mI s 45) 20 0) 13 0 j = _
    rw [pk_un (fun e => hj (by rw [e]; decide)), pk_un (fun e => hj (by rw [e]; decide))]
set_option maxRecDepth 100000 in
theorem r_end19 {s : Mm} (hs : hSh s) : bX9_endText_19 s 45 = some ((), eT s) := by
  have h1 : ∀ f, hSh (wI s 45 f) := fun _ => hs
  unfold bX9_endText_19
  rw [oK_of (sh45 hs), oZ0, oU_of, oK_of (sh45 (h1 _)), oU_of, wI_s]
  rfl
set_option maxRecDepth 100000 in
theorem r_endB {s : Mm} (hs : hSh s) (h : mI s 45 19 = 1) : fX9_endText s 45 = some ((), eT s) := by
  unfold fX9_endText
  rw [oK_of (sh45 hs), oI_of, h, if_neg (by decide), r_end19 hs]
set_option maxRecDepth 100000 in
theorem r_endG {s : Mm} (hs : hSh s) (h : mI s 45 19 = 0) (h0 : mI s 45 16 = 0) : fX9_endText s 45 = some ((), eT s) := by
  unfold fX9_endText
  rw [oK_of (sh45 hs), oI_of, h, if_pos rfl, oK_of (sh45 hs), oI_of, h0, if_pos rfl, r_end19 hs]
set_option maxRecDepth 100000 in
theorem r_endM {t : Tk} {q : Bool} {m : Mm} {k nc nl np no : Nat} {op ar pl pa : Nat → Int32} (hT : TkO t) (hm : LXm t q m) (hk : k < tM t) : fX9_endText (rS t m k nc nl np no op ar pl pa) 45 = some ((), eT (rS t (mB t m k) k nc nl np no op ar pl pa)) := by
  have hs : hSh (rS t m k nc nl np no op ar pl pa) := hm.1
  have hB : hSh (rS t (mB t m k) k nc nl np no op ar pl pa) := hm.1
  have n0 : ¬ tO t k = 0 := fun e => absurd ((hT.2.2.2.2.2.2.1 k (by omega)).mp e) (by omega)
  unfold fX9_endText
  rw [oK_of (sh45 hs), oI_of, rS_19 hm.2.2.1, if_pos rfl, oK_of (sh45 hs), oI_of, rS_16, if_neg n0, oR_of (sh45 hs), r_must0 hm rfl, oB_of, r_end19 hB]
set_option maxRecDepth 100000 in
theorem hSh_MdF {v w : Mm} (k : MdF v w) (h : hSh v) : hSh w := by
  unfold hSh at h ⊢
  rw [k.1, k.2.1, k.2.2.1]; exact h
/-- the text had a fault -/
def FltE (m s : Mm) (v : Int32) : Prop := ∃ z, fX9_endText s 45 = some ((), z) ∧ hSh z ∧ MdF m z ∧ mI z 45 19 = 1 ∧ mI z 45 18 = v ∧ mI z 45 20 = 0 ∧ mI z 45 13 = 0
set_option maxRecDepth 100000 in
theorem Flt_of {t : Tk} {q : Bool} {m0 s : Mm} {k' : Nat} (hT : TkO t) (h0 : hSh m0) (hM : ∀ m', BFr m0 m' → mI m' 45 19 = 0 → LXm t q m') (h : Bad9 t m0 s k' ∨ ∃ m' nc p' np no op ar pl pa, s = rS t m' k' nc p' np no op ar pl pa ∧ BFr m0 m' ∧ mI m' 45 19 = 0 ∧ k' < tM t) : FltE m0 s (nI (tS t k')) := by
  rcases h with ⟨m', k, nc, nl, np, no, op, ar, pl, pa, rfl, b1, b2, b3⟩ | ⟨m', nc, p', np, no, op, ar, pl, pa, rfl, b1, b2, b3⟩
  · have hs : hSh (rS t m' k nc nl np no op ar pl pa) := show hSh m' from BFr_sh b1 h0
    exact ⟨_, r_endB hs b2, hs, MdF_trans (MdF_BFr b1) (MdF_trans MdF_rS MdF_eT), b2, b3, rfl, rfl⟩
  · have hm := hM m' b1 b2
    exact ⟨_, r_endM hT hm b3, hm.1, MdF_trans (MdF_BFr b1) (MdF_trans (MdF_BFr BFr_B) (MdF_trans MdF_rS MdF_eT)), rfl, rfl, rfl, rfl⟩
/-! the row of the reference -/
def r1F (f g : Nat → Int32) (a n : Nat) : Nat → Int32 := fun i => if a + 2 ≤ i ∧ i < a + 2 + n then g (i - (a + 2)) else f i
def r2F (f op ar : Nat → Int32) (a n : Nat) : Nat → Int32 := fun i => if a + 98 ≤ i ∧ i < a + 98 + 2 * n then (if (i - (a + 98)) % 2 = 0 then op ((i - (a + 98)) / 2) else ar ((i - (a + 98)) / 2)) else f i
set_option maxRecDepth 100000 in
theorem r1F_u {f g : Nat → Int32} {a n : Nat} : upd (r1F f g a n) (a + 2 + n) (g n) = r1F f g a (n + 1) := by
  funext i
  unfold r1F
  by_cases z : i = a + 2 + n
  · subst z; rw [pk_us, if_pos (by omega), show a + 2 + n - (a + 2) = n by omega]
  · rw [pk_un z]
    by_cases y : a + 2 ≤ i ∧ i < a + 2 + n
    · rw [if_pos y, if_pos (by omega)]
    · rw [if_neg y, if_neg (by omega)]
set_option maxRecDepth 100000 in
theorem r2F_u {f op ar : Nat → Int32} {a n : Nat} : upd (upd (r2F f op ar a n) (a + 98 + 2 * n) (op n)) (a + 98 + 2 * n + 1) (ar n) = r2F f op ar a (n + 1) := by
  funext i
  unfold r2F
  by_cases z : i = a + 98 + 2 * n + 1
  · subst z
    rw [pk_us, if_pos (by omega), if_neg (by omega), show (a + 98 + 2 * n + 1 - (a + 98)) / 2 = n by omega]
  · rw [pk_un z]
    by_cases w : i = a + 98 + 2 * n
    · subst w
      rw [pk_us, if_pos (by omega), if_pos (by omega), show (a + 98 + 2 * n - (a + 98)) / 2 = n by omega]
    · rw [pk_un w]
      by_cases y : a + 98 ≤ i ∧ i < a + 98 + 2 * n
      · rw [if_pos y, if_pos (show a + 98 ≤ i ∧ i < a + 98 + 2 * (n + 1) by omega)]
      · rw [if_neg y, if_neg (show ¬ (a + 98 ≤ i ∧ i < a + 98 + 2 * (n + 1)) by omega)]
section
variable {W : Mm}
set_option maxRecDepth 100000 in
theorem r_146 (hS : hSh W) {a nc nl : Nat} (ha : a + 898 ≤ 5530) (hnc : nc ≤ 400) (h23 : mI W 45 23 = nI nc) {f : Nat → Int32} (ha2 : 2 < a) (hf : f 2 = nI nl) (hl : nl ≤ 6) {N : Nat} : ∀ d k, k + d = nc → rX9_law_146 (N + d + 1) (wI W 47 (r2F f (mI W 56) (mI W 57) a k)) 45 (nI a) (nI k) = some (nI nl, wI (wI W 47 (upd (r2F f (mI W 56) (mI W 57) a nc) 2 (nI (nl + 1)))) 45 (upd (mI W 45) 1 0)) := by
  have hs : ∀ g, hSh (wI W 47 g) := fun _ => hS
  have e23 : ∀ g, mI (wI W 47 g) 45 23 = nI nc := fun _ => h23
  intro d
  induction d with
  | zero =>
    intro k hk
    have e : k = nc := by omega
    subst e
    have q2 : mI (wI W 47 (r2F f (mI W 56) (mI W 57) a k)) 47 2 = nI nl := by
      show r2F f (mI W 56) (mI W 57) a k 2 = _
      unfold r2F
      rw [if_neg (by omega)]; exact hf
    have q3 : mI (wI W 47 (upd (r2F f (mI W 56) (mI W 57) a k) 2 (nI (nl + 1)))) 47 2 = nI (nl + 1) := by
      show upd (r2F f (mI W 56) (mI W 57) a k) 2 (nI (nl + 1)) 2 = _
      rw [pk_us]
    have ew : wI (wI W 47 (r2F f (mI W 56) (mI W 57) a k)) 47 (upd (mI (wI W 47 (r2F f (mI W 56) (mI W 57) a k)) 47) 2 (nI (nl + 1))) = wI W 47 (upd (r2F f (mI W 56) (mI W 57) a k) 2 (nI (nl + 1))) := by
      show wI (wI W 47 (r2F f (mI W 56) (mI W 57) a k)) 47 (upd (r2F f (mI W 56) (mI W 57) a k) 2 (nI (nl + 1))) = _
      rw [wI_s]
    show bX9_law_146 _ _ 45 (nI a) (nI k) = _
    unfold bX9_law_146
    rw [oK_of (sh45 (hs _)), oI_of, e23, if_pos (Int32.le_refl _), oK_of (sh45 (hs _)), rf45_3 (hs _), oNn_of, show (2 : Int32) = nI 2 from rfl, oA_k (sh47 (hs _)) (by decide) (by decide), oI_of, clm (by decide), q2, oA_k (sh47 (hs _)) (by decide) (by decide), nI_1, oU_of, ew, oK_of (sh45 (hs _)), rf45_3 (hs _), oNn_of, oA_k (sh47 (hs _)) (by decide) (by decide), oI_of, q3, nI_pred, oR_of (sh45 (hs _)), m_accept (hs _) (nI nl) (nI_pos' (by omega)), oB_of]
    rfl
  | succ d ih =>
    intro k hk
    have i1 : nI a + 98 + 2 * nI k = nI (a + 98 + 2 * k) := by rw [show (98 : Int32) = nI 98 from rfl, show (2 : Int32) = nI 2 from rfl, nI_mul, nI_add, nI_add]
    have ew : wI (wI (wI W 47 (r2F f (mI W 56) (mI W 57) a k)) 47 (upd (mI (wI W 47 (r2F f (mI W 56) (mI W 57) a k)) 47) (a + 98 + 2 * k) (mI W 56 k))) 47 (upd (mI (wI (wI W 47 (r2F f (mI W 56) (mI W 57) a k)) 47 (upd (mI (wI W 47 (r2F f (mI W 56) (mI W 57) a k)) 47) (a + 98 + 2 * k) (mI W 56 k))) 47) (a + 98 + 2 * k + 1) (mI W 57 k)) = wI W 47 (r2F f (mI W 56) (mI W 57) a (k + 1)) := by
      show wI (wI (wI W 47 (r2F f (mI W 56) (mI W 57) a k)) 47 (upd (r2F f (mI W 56) (mI W 57) a k) (a + 98 + 2 * k) (mI W 56 k))) 47 (upd (upd (r2F f (mI W 56) (mI W 57) a k) (a + 98 + 2 * k) (mI W 56 k)) (a + 98 + 2 * k + 1) (mI W 57 k)) = _
      rw [wI_s, wI_s, r2F_u]
    have h2 : ∀ g g', hSh (wI (wI W 47 g) 47 g') := fun _ _ => hS
    show bX9_law_146 (rX9_law_146 (N + d + 1)) _ 45 (nI a) (nI k) = _
    unfold bX9_law_146
    rw [oK_of (sh45 (hs _)), oI_of, e23, if_neg (nI_ge (by omega) (by omega)), oK_of (sh45 (hs _)), rf45_3 (hs _), oNn_of, oK_of (sh45 (hs _)), rf45_24 (hs _), oNn_of, oA_k (sh56 (hs _)) (by omega) (by decide), oI_of, clm (by omega), i1, oA_k (sh47 (hs _)) (by omega) (by decide), clm (by omega), oU_of, oK_of (sh45 (h2 _ _)), rf45_3 (h2 _ _), oNn_of, oK_of (sh45 (h2 _ _)), rf45_25 (h2 _ _), oNn_of, oA_k (sh57 (h2 _ _)) (by omega) (by decide), oI_of, nI_1, oA_k (sh47 (h2 _ _)) (by omega) (by decide), clm (by omega), oU_of, nI_1]
    refine Eq.trans ?_ (ih (k + 1) (by omega))
    exact congrArg (fun z => rX9_law_146 (N + d + 1) z 45 (nI a) (nI (k + 1))) ew
set_option maxRecDepth 100000 in
theorem r_111 (hS : hSh W) {a n : Nat} (ha : a + 898 ≤ 5530) (hn : n ≤ 12) (h21 : mI W 45 21 = nI n) {f : Nat → Int32} {N : Nat} : ∀ d k, k + d = 8 * n → rX9_law_111 (N + d + 1) (wI W 47 (r1F f (mI W 55) a k)) 45 (nI a) (nI k) = rX9_law_146 hwF (wI W 47 (r1F f (mI W 55) a (8 * n))) 45 (nI a) 0 := by
  have hs : ∀ g, hSh (wI W 47 g) := fun _ => hS
  have e21 : ∀ g, mI (wI W 47 g) 45 21 = nI n := fun _ => h21
  have e8 : (8 : Int32) * nI n = nI (8 * n) := by rw [show (8 : Int32) = nI 8 from rfl, nI_mul]
  intro d
  induction d with
  | zero =>
    intro k hk
    have e : k = 8 * n := by omega
    subst e
    show bX9_law_111 _ _ 45 (nI a) (nI (8 * n)) = _
    unfold bX9_law_111
    rw [oK_of (sh45 (hs _)), oI_of, e21, e8, if_pos (Int32.le_refl _)]
  | succ d ih =>
    intro k hk
    have i1 : nI a + 2 + nI k = nI (a + 2 + k) := by rw [show (2 : Int32) = nI 2 from rfl, nI_add, nI_add]
    show bX9_law_111 (rX9_law_111 (N + d + 1)) _ 45 (nI a) (nI k) = _
    unfold bX9_law_111
    rw [oK_of (sh45 (hs _)), oI_of, e21, e8, if_neg (nI_ge (by omega) (by omega)), oK_of (sh45 (hs _)), rf45_3 (hs _), oNn_of, oK_of (sh45 (hs _)), rf45_22 (hs _), oNn_of, oA_k (sh55 (hs _)) (by omega) (by decide), oI_of, clm (by omega), i1, oA_k (sh47 (hs _)) (by omega) (by decide), clm (by omega), oU_of, nI_1]
    refine Eq.trans ?_ (ih (k + 1) (by omega))
    refine congrArg (fun z => rX9_law_111 (N + d + 1) z 45 (nI a) (nI (k + 1))) ?_
    show wI (wI W 47 (r1F f (mI W 55) a k)) 47 (upd (r1F f (mI W 55) a k) (a + 2 + k) (mI W 55 k)) = _
    rw [wI_s, r1F_u]
def rowF (W : Mm) (a n nc nl : Nat) : Nat → Int32 := upd (r2F (r1F (upd (mI W 47) (a + 1) (nI n)) (mI W 55) a (8 * n)) (mI W 56) (mI W 57) a nc) 2 (nI (nl + 1))
set_option maxRecDepth 100000 in
theorem r_64ok {s : Mm} (hE : fX9_endText s 45 = some ((), W)) (hs : hSh s) (hS : hSh W) (h19 : mI W 45 19 = 0) {n nc nl : Nat} (hl : nl < 6) (h2 : mI W 47 2 = nI nl) (hn : n ≤ 12) (h21 : mI W 45 21 = nI n) (hnc : nc ≤ 400) (h23 : mI W 45 23 = nI nc) : bX9_law_64 s 45 = some (nI nl, wI (wI W 47 (rowF W (130 + 900 * nl) n nc nl)) 45 (upd (mI W 45) 1 0)) := by
  have s1 : ∀ g, hSh (wI W 47 g) := fun _ => hS
  have ia : (130 : Int32) + 900 * nI nl = nI (130 + 900 * nl) := by rw [show (130 : Int32) = nI 130 from rfl, show (900 : Int32) = nI 900 from rfl, nI_mul, nI_add]
  have l1 := r_111 (W := W) hS (a := 130 + 900 * nl) (by omega) hn h21 (f := upd (mI W 47) (130 + 900 * nl + 1) (nI n)) (N := 999999 - 8 * n) (8 * n) 0 (by omega)
  have l2 := r_146 (W := W) hS (a := 130 + 900 * nl) (by omega) hnc h23 (f := r1F (upd (mI W 47) (130 + 900 * nl + 1) (nI n)) (mI W 55) (130 + 900 * nl) (8 * n)) (nl := nl) (by omega) (by
    unfold r1F
    rw [if_neg (by omega), pk_un (by omega)]; exact h2) (by omega) (N := 999999 - nc) nc 0 (by omega)
  have z1 : r1F (upd (mI W 47) (130 + 900 * nl + 1) (nI n)) (mI W 55) (130 + 900 * nl) 0 = upd (mI W 47) (130 + 900 * nl + 1) (nI n) := by funext i; unfold r1F; rw [if_neg (by omega)]
  have z2 : r2F (r1F (upd (mI W 47) (130 + 900 * nl + 1) (nI n)) (mI W 55) (130 + 900 * nl) (8 * n)) (mI W 56) (mI W 57) (130 + 900 * nl) 0 = r1F (upd (mI W 47) (130 + 900 * nl + 1) (nI n)) (mI W 55) (130 + 900 * nl) (8 * n) := by funext i; unfold r2F; rw [if_neg (by omega)]
  rw [z1, show 999999 - 8 * n + 8 * n + 1 = hwF by unfold hwF; omega] at l1
  rw [z2, show 999999 - nc + nc + 1 = hwF by unfold hwF; omega] at l2
  unfold bX9_law_64
  rw [oR_of (sh45 hs), hE, oB_of, oK_of (sh45 hS), oI_of, h19, if_pos rfl, oK_of (sh45 hS), rf45_3 hS, oNn_of, show (2 : Int32) = nI 2 from rfl, oA_k (sh47 hS) (by decide) (by decide), oI_of, clm (by decide), h2, ia, oI_of, oK_of (sh45 hS), oNn_of, oK_of (sh45 hS), oI_of, h21, nI_1, oA_k (sh47 hS) (by omega) (by decide), clm (by omega), oU_of]
  exact l1.trans l2
end
