/-! ===== all clauses of orders, by both ===== -/
def OI (c m : Mm) (cd wt : Nat → Int32) (L : Nat) (op ar : Nat → Int32) (nc n : Nat) (hh xx : Nat → Nat) (tt : Nat → Bool) (fV : Nat → (Nat → Int32) → Int64) (fS : Nat → Nat → (Nat → Int32) → Int64) : Prop := ∀ r, r < n → hh r < 4 ∧ 1 ≤ xx r ∧ xx r ≤ 20 ∧ tvf (fV r) ∧ (∀ j, j < nS_ (hh r) → sv (fS r j)) ∧ Oc c cd wt L r (hh r) (xx r) (tt r) (fV r) (fS r) ∧ Oq m op ar nc r (hh r) (xx r) (tt r) (fV r) (fS r)
set_option maxRecDepth 100000 in
theorem nS_3 {h : Nat} : nS_ h ≤ 3 := by unfold nS_; split <;> (try split) <;> omega
set_option maxRecDepth 100000 in
theorem Oc_up {c c' : Mm} {cd wt cd' wt' : Nat → Int32} {L L' n r h x : Nat} {tt : Bool} {fV : (Nat → Int32) → Int64} {fS : Nat → (Nat → Int32) → Int64} (hr : r < n) (k : CFr c c' n) (h0 : Oc c cd wt L r h x tt fV fS) (hL : L ≤ L') (e : ∀ j, j < L → cd' j = cd j ∧ wt' j = wt j) (he : L' = L ∨ cd' L = 288) : Oc c' cd' wt' L' r h x tt fV fS := by
  obtain ⟨h1, h2, h3, h4, h5, h6⟩ := h0
  obtain ⟨-, -, -, -, -, -, -, k26, k27, k28⟩ := k
  have n3 := nS_3 (h := h)
  refine ⟨by rw [k26 r (by omega)]; exact h1, by rw [k27 r (by omega)]; exact h2, fun ht => ?_, fun ht => by rw [k28 _ (by omega)]; exact h4 ht, fun j hj => ?_, fun j j1 j2 => by rw [k28 _ (by omega)]; exact h6 j j1 j2⟩
  · obtain ⟨a, a1, a2, a3⟩ := h3 ht
    exact ⟨a, by omega, by rw [k28 _ (by omega)]; exact a2, SegC_up a3 hL e he⟩
  · obtain ⟨a, a1, a2, a3⟩ := h5 j hj
    exact ⟨a, by omega, by rw [k28 _ (by omega)]; exact a2, SegC_up a3 hL e he⟩
set_option maxRecDepth 100000 in
theorem Oq_up {m m' : Mm} {op ar op' ar' : Nat → Int32} {nc nc' n r h x : Nat} {tt : Bool} {fV : (Nat → Int32) → Int64} {fS : Nat → (Nat → Int32) → Int64} (hr : r < n) (k : ∀ i, i < 10 * n → mI m' 69 i = mI m 69 i) (h0 : Oq m op ar nc r h x tt fV fS) (hL : nc ≤ nc') (e : ∀ j, j < nc → op' j = op j ∧ ar' j = ar j) : Oq m' op' ar' nc' r h x tt fV fS := by
  obtain ⟨h1, h2, h3, h4, h5, h6⟩ := h0
  have n3 := nS_3 (h := h)
  refine ⟨by rw [k _ (by omega)]; exact h1, by rw [k _ (by omega)]; exact h2, fun ht => ?_, fun ht => ?_, fun j hj => ?_, fun j j1 j2 => by rw [k _ (by omega), k _ (by omega)]; exact h6 j j1 j2⟩
  · obtain ⟨a, b, a1, a2, a3, a4⟩ := h3 ht
    exact ⟨a, b, by omega, by rw [k _ (by omega)]; exact a2, by rw [k _ (by omega)]; exact a3, SegR_up a4 a1 e⟩
  · obtain ⟨x, a1, a2, a3⟩ := h4 ht
    exact ⟨x, a1, by rw [k _ (by omega)]; exact a2, by rw [k _ (by omega)]; exact a3⟩
  · obtain ⟨a, b, a1, a2, a3, a4⟩ := h5 j hj
    exact ⟨a, b, by omega, by rw [k _ (by omega)]; exact a2, by rw [k _ (by omega)]; exact a3, SegR_up a4 a1 e⟩
def fu_ {α : Type} (f : Nat → α) (n : Nat) (x : α) : Nat → α := fun r => if r = n then x else f r
set_option maxRecDepth 100000 in
theorem OI_add {c m c' m' : Mm} {cd wt cd' wt' op ar op' ar' : Nat → Int32} {L L' nc nc' n h x : Nat} {hh xx : Nat → Nat} {tt : Nat → Bool} {fV : Nat → (Nat → Int32) → Int64} {fS : Nat → Nat → (Nat → Int32) → Int64} {t1 : Bool} {fV1 : (Nat → Int32) → Int64} {fS1 : Nat → (Nat → Int32) → Int64} (hI : OI c m cd wt L op ar nc n hh xx tt fV fS) (kc : CFr c c' n) (hL : L ≤ L') (e : ∀ j, j < L → cd' j = cd j ∧ wt' j = wt j) (he : L' = L ∨ cd' L = 288) (km : ∀ i, i < 10 * n → mI m' 69 i = mI m 69 i) (hn : nc ≤ nc') (e2 : ∀ j, j < nc → op' j = op j ∧ ar' j = ar j) (h4 : h < 4) (hx1 : 1 ≤ x) (hx2 : x ≤ 20) (hv : tvf fV1) (hs : ∀ j, j < nS_ h → sv (fS1 j)) (hC : Oc c' cd' wt' L' n h x t1 fV1 fS1) (hR : Oq m' op' ar' nc' n h x t1 fV1 fS1) : OI c' m' cd' wt' L' op' ar' nc' (n + 1) (fu_ hh n h) (fu_ xx n x) (fu_ tt n t1) (fu_ fV n fV1) (fu_ fS n fS1) := by
  intro r hr
  unfold fu_
  by_cases z : r = n
  · simp only [z, if_true]
    exact ⟨h4, hx1, hx2, hv, hs, hC, hR⟩
  · simp only [z, if_false]
    obtain ⟨a1, a2, a3, a4, a5, a6, a7⟩ := hI r (by omega)
    exact ⟨a1, a2, a3, a4, a5, Oc_up (by omega) kc a6 hL e he, Oq_up (by omega) km a7 hn e2⟩
section
variable {t : Tk}
set_option maxRecDepth 100000 in
theorem r_19bad {m' : Mm} {k nc nl np no : Nat} {op ar pl pa : Nat → Int32} (hm : hSh m') (h : mI m' 45 19 = 1) {N : Nat} : rX9_orders_19 (N + 1) (rS t m' k nc nl np no op ar pl pa) 45 = bX9_orders_46 (rS t m' k nc nl np no op ar pl pa) 45 := by
  have hs : hSh (rS t m' k nc nl np no op ar pl pa) := hm
  show bX9_orders_19 _ _ 45 = _
  unfold bX9_orders_19
  rw [oK_of (sh45 hs), oI_of, rS_19', h, if_neg (by decide)]
set_option maxRecDepth 100000 in
theorem r_19 {q : Bool} {m' : Mm} {k nc nl np no : Nat} {op ar pl pa : Nat → Int32} (hT : TkO t) (hm : LXm t q m') (hk : k ≤ tM t) {N : Nat} : rX9_orders_19 (N + 1) (rS t m' k nc nl np no op ar pl pa) 45 = if tK t k = 59 then oB (fX9_readOrder (rS t m' (k + 1) nc nl np no op ar pl pa) 45) (fun _ u41 => rX9_orders_19 N u41 45) else bX9_orders_46 (rS t m' k nc nl np no op ar pl pa) 45 := by
  have hs : ∀ k, hSh (rS t m' k nc nl np no op ar pl pa) := fun _ => hm.1
  show bX9_orders_19 (rX9_orders_19 N) _ 45 = _
  unfold bX9_orders_19
  rw [oK_of (sh45 (hs _)), oI_of, rS_19 hm.2.2.1, if_pos rfl, oR_of (sh45 (hs _))]
  by_cases z : tK t k = 59
  · rw [r_sgY hT hm.1 hk (by decide) z, oB_of, if_neg (by decide), oR_of (sh45 (hs _)), r_next hm (TkO_lt hT hk (by rw [z]; decide)), oB_of, oR_of (sh45 (hs _)), if_pos z]
  · rw [r_sgN hT hm.1 hk (by decide) z, oB_of, if_pos rfl, if_neg z]
/-- the end of both: a fault, or all is read -/
def OTx (t : Tk) (c m : Mm) (X Y : Option (Int32 × Mm)) : Prop := ∃ v c' k' p' L' cd' wt', X = some (v, cS c' k' p' L' cd' wt') ∧ CrF c c' ∧ k' ≤ tM t ∧
  ((v = nI (tS t k') ∧ ∃ s, Y = bX9_orders_46 s 45 ∧ (Bad9 t m s k' ∨ ∃ m' nc np no op ar pl pa, s = rS t m' k' nc p' np no op ar pl pa ∧ BFr m m' ∧ mI m' 45 19 = 0 ∧ k' < tM t)) ∨
   (v = -1 ∧ L' ≤ 400 ∧ ∃ m' nc np no op ar pl pa n hh xx tt fV fS, Y = bX9_orders_46 (rS t m' k' nc p' np no op ar pl pa) 45 ∧ k' = tM t ∧ BFr m m' ∧ mI m' 45 19 = 0 ∧ mI m' 45 18 = mI m 45 18 ∧ 1 ≤ n ∧ n ≤ 12 ∧ mI m' 45 21 = nI n ∧ mI c' 23 6 = nI n ∧ nc ≤ 400 ∧ OI c' m' cd' wt' L' op ar nc n hh xx tt fV fS))
set_option maxRecDepth 100000 in
theorem J_otext {m0 c0 : Mm} (hT : TkO t) (hM : ∀ m', BFr m0 m' → mI m' 45 19 = 0 → LXm t true m') {Nf Ng : Nat} : ∀ (d : Nat) (c m : Mm) (k p L nc np no : Nat) (cd wt op ar pl pa : Nat → Int32) (n : Nat) (hh xx : Nat → Nat) (tt : Nat → Bool) (fV : Nat → (Nat → Int32) → Int64) (fS : Nat → Nat → (Nat → Int32) → Int64), d + n = 12 → 1 ≤ d → LXc t true c → CrF c0 c → BFr m0 m → mI m 45 19 = 0 → mI m 45 18 = mI m0 45 18 → k ≤ tM t → L ≤ k → p ≤ 50 → nc ≤ k → mI c 23 6 = nI n → mI m 45 21 = nI n → OI c m cd wt L op ar nc n hh xx tt fV fS →
    OTx t c0 m0 (rX4_readText_39 (Nf + d + 1) (cS c k p L cd wt) 19 1 (nI n)) (oB (fX9_readOrder (rS t m k nc p np no op ar pl pa) 45) (fun _ u => rX9_orders_19 (Ng + d + 1) u 45)) := by
  have h400 := hT.1
  intro d
  induction d with
  | zero => intro c m k p L nc np no cd wt op ar pl pa n hh xx tt fV fS h h1; omega
  | succ d ih =>
    intro c m k p L nc np no cd wt op ar pl pa n hh xx tt fV fS hA h1 hc kc km h19 h18 hk hL hp hnc h6 h21 hI
    have hm : LXm t true m := hM m km h19
    have hs : ∀ c', hSh c' → ∀ k p L cd wt, hSh (cS c' k p L cd wt) := fun _ h _ _ _ _ _ => h
    obtain ⟨r, c', k', p', L', cd', wt', a1, a2, a3, a4, a5⟩ := J_oclause (p := p) (np := np) (no := no) (cd := cd) (wt := wt) (op := op) (ar := ar) (pl := pl) (pa := pa) hT hc hm (fun m' b1 b2 => hM m' (BFr_trans km b1) b2) hk hL hp hnc (show n < 12 by omega) h6 h21
    have hc' : LXc t true c' := CFr_LX a4 hc
    have X1 : rX4_readText_39 (Nf + (d + 1) + 1) (cS c k p L cd wt) 19 1 (nI n) = (if (r : Int32) = 0 then some (nI (tS t k'), cS c' k' p' L' cd' wt') else oB (fX4_skip (cS c' k' p' L' cd' wt') 19 59) (fun v16 u17 => rX4_readText_39 (Nf + d + 1) u17 19 v16 (nI (n + 1)))) := by
      show bX4_readText_39 (rX4_readText_39 (Nf + d + 1)) _ 19 1 (nI n) = _
      unfold bX4_readText_39
      rw [if_neg (show ¬ (12 : Int32) ≤ nI n from nI_ge (b := 12) (by omega) (by decide)), if_neg (by decide), oR_of (sh19 (hs _ hc.1 _ _ _ _ _)), a1, oB_of, nI_1]
      by_cases z : r = 0
      · rw [if_pos z, if_pos z, oK_of (sh19 (hs _ hc'.1 _ _ _ _ _)), rf19_2 (hs _ hc'.1 _ _ _ _ _), oNn_of, oK_of (sh19 (hs _ hc'.1 _ _ _ _ _)), oI_of, cS_4, oA_k (sh22 (hs _ hc'.1 _ _ _ _ _)) (by omega) (by decide), oI_of, clm (by omega), cS_P hc' a3]
      · rw [if_neg z, if_neg z, oR_of (sh19 (hs _ hc'.1 _ _ _ _ _))]
    rw [X1]
    rcases a5 with ⟨rfl, s, b1, b2⟩ | ⟨rfl, b0, b1, b2, b3, b4, b5, m', nc', np', no', op', ar', pl', pa', h, x, t1, fV1, fS1, e1, e2, e3, e4, e5, e6, e7, e8, e9, e10, y1, y2, e11, e12, e13, e14⟩
    · rw [if_pos rfl, b1, oB_of]
      obtain ⟨m', w1, w2, w3, w4, w5, w6, w7, w8, w9, w10, w11, w12, w13⟩ := b2
      subst w10
      rw [r_19bad (BFr_sh w11 hm.1) w12]
      exact ⟨_, c', k', p', L', cd', wt', rfl, CrF_step kc a4, a3, Or.inl ⟨rfl, _, rfl, Or.inl ⟨m', w1, w2, w3, w4, w5, w6, w7, w8, w9, rfl, BFr_trans km w11, w12, w13⟩⟩⟩
    · have hm' : LXm t true m' := hM m' (BFr_trans km e2) e3
      have hI' := OI_add hI a4 b2 b4 b5 e6 e7 e9 e10 y1 y2 e11 e12 e13 e14
      rw [if_neg (by decide), e1, oB_of]
      by_cases z : tK t k' = 59
      · have kM : k' < tM t := TkO_lt hT a3 (by rw [z]; decide)
        rw [c_skipY hT hc' a3 (by decide) z, oB_of, show Ng + (d + 1) + 1 = Ng + d + 1 + 1 by omega, r_19 hT hm' a3, if_pos z]
        by_cases d0 : d = 0
        · subst d0
          have hx : rX4_readText_39 (Nf + 0 + 1) (cS c' (k' + 1) p' L' cd' wt') 19 1 (nI (n + 1)) = some (nI (tS t (k' + 1)), cS c' (k' + 1) p' L' cd' wt') := by
            show bX4_readText_39 _ _ 19 1 _ = _
            unfold bX4_readText_39 bX4_readText_82
            rw [if_pos (show (12 : Int32) ≤ nI (n + 1) by rw [show n + 1 = 12 by omega]; decide), if_neg (by decide), c_106' hT hc' (by omega)]
          have hr : fX9_readOrder (rS t m' (k' + 1) nc' p' np' no' op' ar' pl' pa') 45 = some ((), rS t (mB t m' (k' + 1)) (k' + 1) nc' p' np' no' op' ar' pl' pa') := by
            rw [r_readOrder hT hm'.1 (show k' + 1 ≤ tM t by omega), r_53bad hm', if_pos (show (12 : Int32) ≤ mI m' 45 21 by rw [e5, show n + 1 = 12 by omega]; decide)]
            split <;> rfl
          rw [hx, hr, oB_of, r_19bad (m' := mB t m' (k' + 1)) hm'.1 rfl]
          exact ⟨_, c', k' + 1, p', L', cd', wt', rfl, CrF_step kc a4, by omega, Or.inl ⟨rfl, _, rfl, Or.inl ⟨mB t m' (k' + 1), k' + 1, nc', p', np', no', op', ar', pl', pa', rfl, BFr_trans km (BFr_trans e2 BFr_B), rfl, rfl⟩⟩⟩
        · exact ih c' m' (k' + 1) p' L' nc' np' no' cd' wt' op' ar' pl' pa' (n + 1) _ _ _ _ _ (by omega) (by omega) hc' (CrF_step kc a4) (BFr_trans km e2) e3 (e4.trans h18) (by omega) (by omega) b1 (by omega) a4.2.2.2.2.2.2.1 e5 hI'
      · have hx : rX4_readText_39 (Nf + d + 1) (cS c' k' p' L' cd' wt') 19 0 (nI (n + 1)) = bX4_readText_82 (cS c' k' p' L' cd' wt') 19 0 := by
          show bX4_readText_39 _ _ 19 0 _ = _
          unfold bX4_readText_39
          by_cases w : (12 : Int32) ≤ nI (n + 1)
          · rw [if_pos w]
          · rw [if_neg w, if_pos rfl]
        rw [c_skipN hT hc' a3 (by decide) z, oB_of, show Ng + (d + 1) + 1 = Ng + d + 1 + 1 by omega, r_19 hT hm' a3, if_neg z, hx]
        unfold bX4_readText_82
        rw [if_pos rfl, oK_of (sh19 (hs _ hc'.1 _ _ _ _ _)), rf19_0 (hs _ hc'.1 _ _ _ _ _), oNn_of, oK_of (sh19 (hs _ hc'.1 _ _ _ _ _)), oI_of, cS_4, oA_k (sh20 (hs _ hc'.1 _ _ _ _ _)) (by omega) (by decide), oI_of, clm (by omega), cS_K hc' a3]
        by_cases y : tK t k' = 286
        · have ek : k' = tM t := by
            rcases Nat.lt_or_eq_of_le a3 with w | w
            · exact absurd y (hT.2.2.2.2.1 k' w)
            · exact w
          rw [if_pos y]
          unfold bX4_readText_115
          exact ⟨-1, c', k', p', L', cd', wt', rfl, CrF_step kc a4, a3, Or.inr ⟨rfl, by omega, m', nc', np', no', op', ar', pl', pa', n + 1, _, _, _, _, _, rfl, ek, BFr_trans km e2, e3, e4.trans h18, by omega, by omega, e5, a4.2.2.2.2.2.2.1, by omega, hI'⟩⟩
        · rw [if_neg y, c_106' hT hc' a3]
          exact ⟨_, c', k', p', L', cd', wt', rfl, CrF_step kc a4, a3, Or.inl ⟨rfl, _, rfl, Or.inr ⟨m', nc', np', no', op', ar', pl', pa', rfl, BFr_trans km e2, e3, TkO_lt hT a3 y⟩⟩⟩
end
set_option maxRecDepth 100000 in
/-- orders read by both -/
theorem J_ord0 {u : Mm} {T : Nat → Int32} {n : Nat} (h0 : Tap u T n) (hr : ∀ i, i < n → rg (T i) 0 255) (hu : ∀ i, i < n → mI u 42 i = T i) : ∃ v u8, fX4_readText u 19 42 (nI n) 0 = some (v, u8) ∧ RdF u u8 ∧ ∀ w, Tap w T n → ∃ y, oB (fX9_beginText w 45 1) (fun _ u4 => oR u4 45 9 (oB (fX9_readOrder u4 45) (fun _ u5 => rX9_orders_19 hwF u5 45))) = y ∧
    ((¬ v = -1 ∧ ∃ s m, y = bX9_orders_46 s 45 ∧ hSh s ∧ MdF w m ∧ FltE m s v) ∨
     (v = -1 ∧ ∃ c' p L cd wt m' nc np no op ar pl pa N hh xx tt fV fS, u8 = cS c' (tM (tkOf T n)) p L cd wt ∧ L ≤ 400 ∧ y = bX9_orders_46 (rS (tkOf T n) m' (tM (tkOf T n)) nc p np no op ar pl pa) 45 ∧ hSh m' ∧ MdF w m' ∧ mI m' 45 19 = 0 ∧ mI m' 45 18 = -1 ∧ 1 ≤ N ∧ N ≤ 12 ∧ mI m' 45 21 = nI N ∧ mI c' 23 6 = nI N ∧ nc ≤ 400 ∧ OI c' m' cd wt L op ar nc N hh xx tt fV fS)) := by
  have hT := TkO_of (T := T) h0.2.1 hr
  obtain ⟨cT, e1, e2, e3, e4⟩ := c_readText (T := T) h0.1 hu h0.2.1 (q := true) (x := 0) rfl
  have go : ∀ w, Tap w T n → ∃ vF, MdF w vF ∧ Tap vF T n ∧ mI vF 45 19 = 0 ∧ mI vF 45 20 = 1 ∧ mI vF 45 18 = -1 ∧ OTx (tkOf T n) cT vF (fX4_readText u 19 42 (nI n) 0) (oB (fX9_beginText w 45 1) (fun _ u4 => oR u4 45 9 (oB (fX9_readOrder u4 45) (fun _ u5 => rX9_orders_19 hwF u5 45)))) := by
    intro w hw
    obtain ⟨vF, np, no, b1, b2, b3, b4, b5, b6, b7, b8⟩ := r_beginText hw (q := true) (x := 1) rfl
    have hM : ∀ m', BFr vF m' → mI m' 45 19 = 0 → LXm (tkOf T n) true m' := by
      intro m' k1 k2
      refine LXm_of ⟨BFr_sh k1 b3.1, b3.2.1, ?_, fun i hi => ?_⟩ ?_ k2
      · rw [k1.2.2.2.2.2 13 (by decide) (by decide) (by decide)]; exact b3.2.2.1
      · rw [k1.2.2.2.2.1 54 (by decide) (by decide) (by decide)]; exact b3.2.2.2 i hi
      · rw [k1.2.2.2.2.2 20 (by decide) (by decide) (by decide)]; exact b4
    have sh : hSh (rS (tkOf T n) vF 0 0 0 np no (mI vF 56) (mI vF 57) (mI vF 58) (mI vF 59)) := b3.1
    have lt := J_otext (t := tkOf T n) (m0 := vF) (c0 := cT) hT hM (Nf := 999987) (Ng := 999987) 12 cT vF 0 0 0 0 np no (mI cT 24) (mI cT 25) (mI vF 56) (mI vF 57) (mI vF 58) (mI vF 59) 0 (fun _ => 0) (fun _ => 0) (fun _ => false) (fun _ _ => 0) (fun _ _ _ => 0) rfl (by decide) e2 CrF_rfl BFr_rfl b5 rfl (Nat.zero_le _) (Nat.le_refl 0) (by decide) (Nat.le_refl 0) e3 b7 (fun r hr => absurd hr (Nat.not_lt_zero r))
    refine ⟨vF, b2, b3, b5, b4, b6, ?_⟩
    rw [e1, b1, oB_of, oR_of (sh45 sh)]
    exact lt
  obtain ⟨v0, q1, q2, q3, q4, q5, v, c', k', p', L', cd', wt', x1, x2, x3, x4⟩ := go u h0
  refine ⟨v, cS c' k' p' L' cd' wt', x1, RdF_trans e4 (RdF_cS x2), fun w hw => ⟨_, rfl, ?_⟩⟩
  obtain ⟨vF, b1, b2, b3, b4, b5, v2, c2, k2, p2, L2, cd2, wt2, y1, y2, y3, y4⟩ := go w hw
  obtain ⟨z1, z2⟩ := some2 x1 y1
  have hM : ∀ m', BFr vF m' → mI m' 45 19 = 0 → LXm (tkOf T n) true m' := by
    intro m' k1 k2
    refine LXm_of ⟨BFr_sh k1 b2.1, b2.2.1, ?_, fun i hi => ?_⟩ ?_ k2
    · rw [k1.2.2.2.2.2 13 (by decide) (by decide) (by decide)]; exact b2.2.2.1
    · rw [k1.2.2.2.2.1 54 (by decide) (by decide) (by decide)]; exact b2.2.2.2 i hi
    · rw [k1.2.2.2.2.2 20 (by decide) (by decide) (by decide)]; exact b4
  have nm : ∀ i, i ≤ 400 → ¬ nI i = -1 := by
    intro i hi w
    have := congrArg Int32.toInt w
    rw [nI_toInt (by omega)] at this
    have m1 : (-1 : Int32).toInt = -1 := by decide
    omega
  rcases y4 with ⟨r1, s, r2, r3⟩ | ⟨r1, r2, m', nc, np, no, op, ar, pl, pa, N, hh, xx, tt, fV, fS, r3, r4, r5, r6, r7, r8, r9, r10, r11, r12, r13⟩
  · refine Or.inl ⟨by rw [z1, r1]; exact nm _ (hT.2.2.2.2.2.2.2 k2 y3), s, vF, r2, ?_, b1, ?_⟩
    · rcases r3 with ⟨m', k, nc, nl, np, no, op, ar, pl, pa, rfl, w1, -⟩ | ⟨m', nc, np, no, op, ar, pl, pa, rfl, w1, -⟩
      · exact show hSh m' from BFr_sh w1 b2.1
      · exact show hSh m' from BFr_sh w1 b2.1
    · rw [z1, r1]
      refine Flt_of hT b2.1 hM ?_
      rcases r3 with w | ⟨m', nc, np, no, op, ar, pl, pa, w⟩
      · exact Or.inl w
      · exact Or.inr ⟨m', nc, p2, np, no, op, ar, pl, pa, w⟩
  · subst r4
    exact Or.inr ⟨z1.trans r1, c2, p2, L2, cd2, wt2, m', nc, np, no, op, ar, pl, pa, N, hh, xx, tt, fV, fS, z2, r2, r3, BFr_sh r5 b2.1, MdF_trans b1 (MdF_BFr r5), r6, r7.trans b5, r8, r9, r10, r11, r12, r13⟩
