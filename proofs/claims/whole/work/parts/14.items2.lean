theorem bz_nar (b : Bool) : narrow .boolean (.int (bz b)) = .int (bz b) := by cases b <;> rfl
section ItS
variable {t : Nat → Nat} {n dg np no bt p k c : Nat} {cn : Int32} {f o : Nat → Int32}
theorem it_c {K : Nat} (h : K = 0 ∨ K = 7) : itS t n dg np no bt K cn p k f c o = match kdR t n (rn blN t n p) bt with
    | .inl e => .inl e
    | .inr _ => kbS t n np (rn blN t n (rn leN t n (rn blN t n p))) k (kwF t (rn blN t n p) (rn leN t n (rn blN t n p))) (bmp f k cn) c o := if_pos h
theorem it_4n (h : nuN (hr t n (rn blN t n p)) = true) (hk : k + 2 ≤ np) : itS t n dg np no bt 4 cn p k f c o = match ptS t n dg no (rn blN t n p) c o with
        | .inl e => .inl e
        | .inr (q, o') => .inr (false, 1, q, k + 2, bmp (kpF (bmp f k cn) k 1) (k + 2) (nI (k + 1)), c + 1, o') := by
  unfold itS
  rw [if_neg (by decide), if_pos rfl, if_pos h, if_pos hk]
  rfl
theorem it_4k (h : ¬ nuN (hr t n (rn blN t n p)) = true) : itS t n dg np no bt 4 cn p k f c o = kbS t n np (rn blN t n p) k 1 (bmp f k cn) c o := by
  unfold itS
  rw [if_neg (by decide), if_pos rfl, if_neg h]
theorem it_4x (hk : ¬ k + 2 ≤ np) : itS t n dg np no bt 4 cn p k f c o = .inl (7, rn blN t n p) := by
  unfold itS
  rw [if_neg (by decide), if_pos rfl, if_neg hk]
  split
  · rfl
  · unfold kbS; rw [if_neg hk]
theorem it_56 {K : Nat} (h : K = 5 ∨ K = 6) : itS t n dg np no bt K cn p k f c o = kbS t n np (rn blN t n p) k (K - 3) (bmp f k cn) c o := by
  unfold itS
  rw [if_neg (by omega), if_neg (by omega), if_pos h]
theorem it_3 : itS t n dg np no bt 3 cn p k f c o = if k + 1 ≤ np then
      if hr t n (rn blN t n p) = 40 then .inr (true, 8, rn blN t n p + 1, k + 1, upd (bmp f k cn) k (nI 0), c, o) else .inl (uxp (hr t n (rn blN t n p)), rn blN t n p)
    else .inl (7, rn blN t n p) := by
  unfold itS
  rw [if_neg (by decide), if_neg (by decide), if_neg (by decide), if_pos rfl]
theorem it_3x {a b : Nat} (h : (if k + 1 ≤ np then (if hr t n (rn blN t n p) = 40 then (.inr () : (Nat × Nat) ⊕ Unit) else .inl (uxp (hr t n (rn blN t n p)), rn blN t n p)) else .inl (7, rn blN t n p)) = .inl (a, b)) : itS t n dg np no bt 3 cn p k f c o = .inl (a, b) := by
  rw [it_3]
  split at h
  · next h1 =>
    rw [if_pos h1]
    split at h
    · cases h
    · next h2 => rw [if_neg h2]; cases h; rfl
  · next h1 => rw [if_neg h1]; cases h; rfl
theorem it_d {K : Nat} (h : K = 1 ∨ K = 2 ∨ K = 8) : itS t n dg np no bt K cn p k f c o = match ptS t n dg no (rn blN t n p) c o with
    | .inl e => .inl e
    | .inr (q, o') => .inr (false, 0, q, k, bmp f k cn, c + 1, o') := by
  unfold itS
  rw [if_neg (by omega), if_neg (by omega), if_neg (by omega), if_neg (by omega)]
  rfl
theorem kb_x {a b K : Nat} (h : obS t n p = .inl (a, b)) (hk : k + 2 ≤ np) : kbS t n np p k K f c o = .inl (a, b) := by unfold kbS; rw [if_pos hk, h]
theorem kb_7 {K : Nat} (hk : ¬ k + 2 ≤ np) : kbS t n np p k K f c o = .inl (7, p) := by unfold kbS; rw [if_neg hk]
theorem kb_r {q K : Nat} {b : Bool} (h : obS t n p = .inr (b, q)) (hk : k + 2 ≤ np) : kbS t n np p k K f c o = .inr (b, K, q, k + 2, kpF f k K, c, o) := by unfold kbS; rw [if_pos hk, h]
/-- a new bracket finds room -/
theorem it_push {K K' q k' c' : Nat} {f' o' : Nat → Int32} (hK8 : K ≤ 8) (hlim : bt ≤ limK K) (hp : p ≤ n) (hs : itS t n dg np no bt K cn p k f c o = .inr (true, K', q, k', f', c', o')) : K' ≤ 8 ∧ bt + 1 ≤ limK K' := by
  have b2 := rn_le (P := blN) (t := t) hp
  have b4 := rn_le (P := leN) (t := t) b2
  have b6 := rn_le (P := blN) (t := t) b4
  unfold itS at hs
  split at hs
  · next hc =>
    cases h1 : kdR t n (rn blN t n p) bt with
    | inl e => rw [h1] at hs; cases hs
    | inr r =>
      rw [h1] at hs
      have h2 := kb_bd b6 hs
      have h3 : K' = kwF t (rn blN t n p) (rn leN t n (rn blN t n p)) := h2.2.2.2.2.1
      have h4 := kwF_le t (rn blN t n p) (rn leN t n (rn blN t n p))
      rw [← h3] at h4
      unfold kdR at h1
      split at h1
      · cases h1
      · split at h1
        · cases h1
        · next h5 =>
          split at h1
          · cases h1
          · next h6 =>
            rw [← h3] at h5 h6
            have h7 : bt ≤ 50 := by rcases hc with rfl | rfl; exact Nat.le_trans hlim (by decide); exact hlim
            refine ⟨by omega, ?_⟩
            unfold limK
            rw [if_neg h5]
            by_cases h8 : K' = 7
            · rw [if_pos h8]
              have : ¬ 50 ≤ bt := fun z => h6 ⟨h8, z⟩
              omega
            · rw [if_neg h8, if_neg (by omega)]
              split <;> omega
  · split at hs
    · next h4 =>
      subst h4
      have h5 : bt ≤ 51 := hlim
      split at hs
      · split at hs
        · cases h1 : ptS t n dg no (rn blN t n p) c o with
          | inl e => rw [h1] at hs; cases hs
          | inr r => obtain ⟨q1, o1⟩ := r; rw [h1] at hs; cases hs
        · cases hs
      · have h2 := (kb_bd b2 hs).2.2.2.2.1
        subst h2
        exact ⟨by decide, show bt + 1 ≤ 52 by omega⟩
    · split at hs
      · next h4 =>
        have h2 := (kb_bd b2 hs).2.2.2.2.1
        subst h2
        rcases h4 with rfl | rfl
        · have h5 : bt ≤ 51 := hlim
          exact ⟨by decide, show bt + 1 ≤ 52 by omega⟩
        · have h5 : bt ≤ 51 := hlim
          exact ⟨by decide, show bt + 1 ≤ 52 by omega⟩
      · split at hs
        · next h4 =>
          subst h4
          have h5 : bt ≤ 52 := hlim
          split at hs
          · split at hs
            · cases hs
              exact ⟨by decide, show bt + 1 ≤ 53 by omega⟩
            · cases hs
          · cases hs
        · cases h1 : ptS t n dg no (rn blN t n p) c o with
          | inl e => rw [h1] at hs; cases hs
          | inr r => obtain ⟨q1, o1⟩ := r; rw [h1] at hs; cases hs
end ItS
/-- the text's items, one after the other -/
def rdL (t : Nat → Nat) (n dg np no : Nat) : Nat → Nat → Nat → (Nat → Int32) → Nat → (Nat → Int32) → Nat → (Nat → Int32) → (Nat → Int32) → (Nat × Nat) ⊕ (Nat × Nat × (Nat → Int32) × Nat × (Nat → Int32))
  | 0, _, _, _, _, _, _, _, _ => .inl (0, 0)
  | m + 1, p, k, f, c, o, bt, bk, bn => match itS t n dg np no bt (bk bt).toNatClampNeg (bn bt) p k f c o with
    | .inl e => .inl e
    | .inr (true, K, q, k', f', c', o') => rdL t n dg np no m q k' f' c' o' (bt + 1) (upd bk (bt + 1) (nI K)) (upd bn (bt + 1) (nI (k' - 1)))
    | .inr (false, _, q, k', f', c', o') => match goS t n bk bt q with
      | .inl e => .inl e
      | .inr (true, q2, bt') => rdL t n dg np no m q2 k' f' c' o' bt' bk bn
      | .inr (false, q2, _) => .inr (q2, k', f', c', o')
def rdI (t : Nat → Nat) (n dg np no : Nat) (f o bk bn : Nat → Int32) : (Nat × Nat) ⊕ (Nat × Nat × (Nat → Int32) × Nat × (Nat → Int32)) := rdL t n dg np no (n + 1) 0 0 f 0 o 0 (upd bk 0 (nI 0)) (upd bn 0 (-1))
def rdT (t : Nat → Nat) (n dg np no : Nat) (f o bk bn : Nat → Int32) : (Nat × Nat) ⊕ (Nat × (Nat → Int32) × Nat × (Nat → Int32)) := match rdI t n dg np no f o bk bn with
  | .inl e => .inl e
  | .inr (q, k, f', c, o') => if rn blN t n q < n then .inl (8, rn blN t n q) else .inr (k, f', c, o')
theorem stk_push {bt K : Nat} {bk : Nat → Int32} (h : StkI bt bk) (h8 : K ≤ 8) (hl : bt + 1 ≤ limK K) : StkI (bt + 1) (upd bk (bt + 1) (nI K)) := by
  intro i hi
  by_cases q : i = bt + 1
  · subst q
    exact ⟨K, by simp [upd], h8, hl, fun z => by omega⟩
  · obtain ⟨K1, a1, a2, a3, a4⟩ := h i (by omega)
    exact ⟨K1, by simp [upd, q, a1], a2, a3, a4⟩
theorem stk_pop {bt bt' : Nat} {bk : Nat → Int32} (h : StkI bt bk) (h1 : bt' ≤ bt) : StkI bt' bk := fun i hi => h i (by omega)
theorem stk_53 {bt : Nat} {bk : Nat → Int32} (h : StkI bt bk) : bt ≤ 53 := by
  obtain ⟨K, -, -, a3, -⟩ := h bt (Nat.le_refl _)
  have : limK K ≤ 53 := by unfold limK; repeat' split <;> first | omega | skip
  omega
theorem stk_0 {bk : Nat → Int32} : StkI 0 (upd bk 0 (nI 0)) := fun i hi => ⟨0, by rw [show i = 0 by omega]; rfl, by decide, by omega, fun _ => rfl⟩
theorem go_s {t : Nat → Nat} {n : Nat} {bk : Nat → Int32} (bt p : Nat) : goS t n bk (bt + 1) p = if hr t n (rn blN t n p) = 44 ∧ ¬ bk (bt + 1) = nI 1 then .inr (true, rn blN t n p + 1, bt + 1) else if hr t n (rn blN t n p) = 41 then goS t n bk bt (rn blN t n p + 1) else .inl (uxp (hr t n (rn blN t n p)), rn blN t n p) := rfl

set_option maxHeartbeats 4000000 in
set_option maxRecDepth 100000 in
theorem c_R_opensItem {l : Launch} (hlt : l.stackTraces = false) (G : gl) (h : Nat → Nat) (dg : Nat) (n : Nat) (p : Nat) (fk : Nat) (fp : Nat) (t : Nat → Nat) (np : Nat) (no : Nat) (k : Nat) (c : Nat) (f : Nat → Int32) (o : Nat → Int32) (bt : Nat) (bk : Nat → Int32) (bn : Nat → Int32) (K : Nat) (hn : n ≤ 65536) (hp : p ≤ n) (ht : ∀ i, t i < 256) (hnp : np ≤ 4096) (hnp2 : 2 ≤ np) (hno : no ≤ 8192) (hk : k ≤ np) (hc : 2 * c ≤ no) (hKb : bk bt = nI K) (hK8 : K ≤ 8) (hlim : bt ≤ limK K) : YC l G y_R_opensItem k_R_opensItem 3 (Option.some FieldType.boolean) 10 187 [.ref (h 0)] (wR G h dg n p fk fp t np no k c f o bt bk bn) (fun v w => ∃ b9 K9 q9 k9 f9 c9 o9, itS t n dg np no bt K (bn bt) p k f c o = .inr (b9, K9, q9, k9, f9, c9, o9) ∧ v = some (.int (bz b9)) ∧ w = wR G h dg n q9 fk fp t np no k9 c9 f9 o9 (cond b9 (bt + 1) bt) (cond b9 (upd bk (bt + 1) (nI K9)) bk) (cond b9 (upd bn (bt + 1) (nI (k9 - 1))) bn)) (fun E w => ∃ a b, itS t n dg np no bt K (bn bt) p k f c o = .inl (a, b) ∧ E = "java/lang/IllegalArgumentException" ∧ ∃ q k2 f2 c2 o2, w = wR G h dg n q a b t np no k2 c2 f2 o2 bt bk bn) := by
  refine yc_of (by decide) ?_
  intro pg ev sx mm bl mt cd A C0 hP hD
  obtain ⟨hx, hb, hrt, hml, hown, hg, hlocks, hxt, hE, hK, hA, hmn⟩ := C0
  have hS : va_S A sx.heap sx.heap [] := va_S.rf
  have hl := lv_entry ([.ref (h 0)]) (n := 3) (Nat.le_of_ble_eq_true rfl)
  rw [lg_entry_eq]
  generalize (lg_sl ([.ref (h 0)]) ++ List.replicate (3 - (lg_sl ([.ref (h 0)])).length) Slot.unset).toArray = ls at hl ⊢
  have hl : lv_has ls 3 [(0, .ref (h 0))] := hl
  have b1 := rn_ge (P := blN) (t := t) (n := n) (p := p) hp
  have b2 := rn_le (P := blN) (t := t) (n := n) (p := p) hp
  have b3 := rn_ge (P := leN) (t := t) b2
  have b4 := rn_le (P := leN) (t := t) b2
  have b5 := rn_ge (P := blN) (t := t) b4
  have b6 := rn_le (P := blN) (t := t) b4
  have h53 : bt < 54 := by have : limK K ≤ 53 := (by unfold limK; repeat' split <;> first | omega | skip); omega
  obtain ⟨H, hH⟩ : ∃ H, H = sx.heap := ⟨_, rfl⟩
  rw [← hH] at hP
  have hS : va_S A sx.heap H [] := by rw [hH]; exact hS
  suffices h9 : W pg l ev (yR 10 187) sx mm _ bl mt cd H [] 0 0 (yMQ bl G A _ _ _ _ sx) (F0 mm 0 ls []) by rw [hH] at h9; exact h9
  obtain ⟨locs, hlo⟩ : ∃ locs : List Loc, locs = [] := ⟨_, rfl⟩
  rw [← hlo] at hS ⊢
  refine lv_aload_n hx hb d_R_opensItem_0 rfl (lv_at hl 0 rfl) ?_
  refine y_call (y_runV (As := []) (rest := []) hx hb hml hown (c_R_skipBlanks l G h dg n p fk fp t np no k c f o bt bk bn  (by omega) (by omega) (ht)) (gV (n := 0) hg tk_333 tk_335 (gt_s 4 (by decide +kernel) (by decide +kernel)) tk_4 tk_336 (by decide +kernel) ⟨Nat.le_of_ble_eq_true rfl, Nat.le_of_ble_eq_true rfl⟩) (va_recv hK hP (ci := 1) (q0 := 0) rfl rfl) (y_pre hE hK hP hD hS hA [0, 1, 2, 3, 4, 5, 6, 7] rfl rfl) rfl rfl hl.1 rfl (lv_room (Nat.le_of_ble_eq_true rfl)) d_R_opensItem_1 ⟨Nat.le_of_ble_eq_true rfl, Nat.le_of_ble_eq_true rfl⟩) hP hD hS hA [0, 1, 2, 3, 4, 5, 6, 7] rfl (fun _ _ _ _ _ _ hp => False.elim hp) (fun v9 w9 H locs hp hlw hP hD hS => ?_)
  obtain ⟨rfl, rfl⟩ := hp
  have hP : va_P (gD G) vwC (wR G h dg n (rn blN t n p) fk fp t np no k c f o bt bk bn) H := hP
  have hD : va_D A (wR G h dg n (rn blN t n p) fk fp t np no k c f o bt bk bn) := hD
  refine W.eq (g2 := F0 mm 4 ls []) rfl ?_
  refine lv_aload_n hx hb d_R_opensItem_4 rfl (lv_at hl 0 rfl) ?_
  refine va_get (D := gD G) (ci := 1) (v := .ref (h 2)) (C := "WordShapes$Reader") (T := TR) (N := 8) hx hb hg iw_R hown hK hP 0 rfl rfl 2 (by decide) (hg _ tk_88) (fun _ h9 => h9) rfl d_R_opensItem_5 ?_
  refine lv_aload_n hx hb d_R_opensItem_8 rfl (lv_at hl 0 rfl) ?_
  refine va_get (D := gD G) (ci := 1) (v := .ref (h 5)) (C := "WordShapes$Reader") (T := TR) (N := 8) hx hb hg iw_R hown hK hP 0 rfl rfl 3 (by decide) (hg _ tk_90) (fun _ h9 => h9) rfl d_R_opensItem_9 ?_
  refine y_call (y_runV (As := []) (rest := [.ref (h 2)]) hx hb hml hown (c_B_number l G (fun i => h (i + 5)) bt bk bn  (by omega)) (gV (n := 0) hg tk_340 tk_341 tk_342 tk_5 tk_343 (by decide +kernel) ⟨Nat.le_of_ble_eq_true rfl, Nat.le_of_ble_eq_true rfl⟩) (va_recv hK hP (ci := 0) (q0 := 5) rfl rfl) (y_pre hE hK hP hD hS hA [5, 6, 7] rfl rfl) rfl rfl hl.1 rfl (lv_room (Nat.le_of_ble_eq_true rfl)) d_R_opensItem_12 ⟨Nat.le_of_ble_eq_true rfl, Nat.le_of_ble_eq_true rfl⟩) hP hD hS hA [5, 6, 7] rfl (fun _ _ _ _ _ _ hp => False.elim hp) (fun v9 w9 H locs hp hlw hP hD hS => ?_)
  obtain ⟨rfl, rfl⟩ := hp
  have hP : va_P (gD G) vwC (wR G h dg n (rn blN t n p) fk fp t np no k c f o bt bk bn) H := hP
  have hD : va_D A (wR G h dg n (rn blN t n p) fk fp t np no k c f o bt bk bn) := hD
  refine W.eq (g2 := F0 mm 15 ls [.int (bn bt), .ref (h 2)]) rfl ?_
  refine y_call (y_runV (As := [.int (bn bt)]) (rest := []) hx hb hml hown (c_S_addOneAt l G (fun i => h (i + 2)) np no k c f o (bn bt) (by omega) (by omega)) (gV (n := 1) hg tk_344 tk_345 tk_346 tk_3 tk_347 (by decide +kernel) ⟨Nat.le_of_ble_eq_true rfl, Nat.le_of_ble_eq_true rfl⟩) (va_recv hK hP (ci := 2) (q0 := 2) rfl rfl) (y_pre hE hK hP hD hS hA [2, 3, 4] rfl rfl) rfl rfl hl.1 rfl (lv_room (Nat.le_of_ble_eq_true rfl)) d_R_opensItem_15 ⟨Nat.le_of_ble_eq_true rfl, Nat.le_of_ble_eq_true rfl⟩) hP hD hS hA [2, 3, 4] rfl (fun _ _ _ _ _ _ hp => False.elim hp) (fun v9 w9 H locs hp hlw hP hD hS => ?_)
  obtain ⟨rfl, rfl⟩ := hp
  have hP : va_P (gD G) vwC (wR G h dg n (rn blN t n p) fk fp t np no k c (bmp f k (bn bt)) o bt bk bn) H := hP
  have hD : va_D A (wR G h dg n (rn blN t n p) fk fp t np no k c (bmp f k (bn bt)) o bt bk bn) := hD
  refine W.eq (g2 := F0 mm 18 ls []) rfl ?_
  refine lv_aload_n hx hb d_R_opensItem_18 rfl (lv_at hl 0 rfl) ?_
  refine va_get (D := gD G) (ci := 1) (v := .ref (h 5)) (C := "WordShapes$Reader") (T := TR) (N := 8) hx hb hg iw_R hown hK hP 0 rfl rfl 3 (by decide) (hg _ tk_90) (fun _ h9 => h9) rfl d_R_opensItem_19 ?_
  refine y_call (y_runV (As := []) (rest := []) hx hb hml hown (c_B_kind l G (fun i => h (i + 5)) bt bk bn  (by omega)) (gV (n := 0) hg tk_348 tk_349 tk_350 tk_5 tk_351 (by decide +kernel) ⟨Nat.le_of_ble_eq_true rfl, Nat.le_of_ble_eq_true rfl⟩) (va_recv hK hP (ci := 0) (q0 := 5) rfl rfl) (y_pre hE hK hP hD hS hA [5, 6, 7] rfl rfl) rfl rfl hl.1 rfl (lv_room (Nat.le_of_ble_eq_true rfl)) d_R_opensItem_22 ⟨Nat.le_of_ble_eq_true rfl, Nat.le_of_ble_eq_true rfl⟩) hP hD hS hA [5, 6, 7] rfl (fun _ _ _ _ _ _ hp => False.elim hp) (fun v9 w9 H locs hp hlw hP hD hS => ?_)
  obtain ⟨rfl, rfl⟩ := hp
  have hP : va_P (gD G) vwC (wR G h dg n (rn blN t n p) fk fp t np no k c (bmp f k (bn bt)) o bt bk bn) H := hP
  have hD : va_D A (wR G h dg n (rn blN t n p) fk fp t np no k c (bmp f k (bn bt)) o bt bk bn) := hD
  refine W.eq (g2 := F0 mm 25 ls [.int (bk bt)]) rfl ?_
  refine y_eqi (y := nI K) (hKb) ?_
  refine lv_istore_n (lv' := [(1, .int (nI K)), (0, .ref (h 0))]) hx hb d_R_opensItem_25 rfl hl (by decide) rfl (fun ls hl => ?_)
  refine lv_iload_n hx hb d_R_opensItem_26 rfl (lv_at hl 0 rfl) ?_
  rcases (show K = 0 ∨ K = 1 ∨ K = 2 ∨ K = 3 ∨ K = 4 ∨ K = 5 ∨ K = 6 ∨ K = 7 ∨ K = 8 by omega) with rfl | rfl | rfl | rfl | rfl | rfl | rfl | rfl | rfl
  · skip
    have hlim : bt ≤ 0 := hlim
    refine lv_tableIn (off := 45) (tgt := 72) hx hb d_R_opensItem_27 (by decide) (by decide) rfl (by decide) ?_
    refine lv_aload_n hx hb d_R_opensItem_72 rfl (lv_at hl 1 rfl) ?_
    refine y_call (y_runV (As := []) (rest := []) hx hb hml hown (c_R_readKind hlt G h dg n (rn blN t n p) fk fp t np no k c (bmp f k (bn bt)) o bt bk bn  (by omega) (by omega) (ht) (by omega)) (gV (n := 0) hg tk_352 tk_354 (gt_s 5 (by decide +kernel) (by decide +kernel)) tk_4 tk_355 (by decide +kernel) ⟨Nat.le_of_ble_eq_true rfl, Nat.le_of_ble_eq_true rfl⟩) (va_recv hK hP (ci := 1) (q0 := 0) rfl rfl) (y_pre hE hK hP hD hS hA [0, 1, 2, 3, 4, 5, 6, 7] rfl rfl) rfl rfl hl.1 rfl (lv_room (Nat.le_of_ble_eq_true rfl)) d_R_opensItem_73 ⟨Nat.le_of_ble_eq_true rfl, Nat.le_of_ble_eq_true rfl⟩) hP hD hS hA [0, 1, 2, 3, 4, 5, 6, 7] rfl (fun E9 w9 qx cx H locs hp hlw hP hD hS hq1 hq2 hq3 => ?_) (fun v9 w9 H locs hp hlw hP hD hS => ?_)
    · skip
      obtain ⟨a_73, b_73, q_73, hs_73, rfl, rfl⟩ := hp
      have hP : va_P (gD G) vwC (wR G h dg n q_73 a_73 b_73 t np no k c (bmp f k (bn bt)) o bt bk bn) H := hP
      have hD : va_D A (wR G h dg n q_73 a_73 b_73 t np no k c (bmp f k (bn bt)) o bt bk bn) := hD
      exact y_out (ws := wR G h dg n q_73 a_73 b_73 t np no k c (bmp f k (bn bt)) o bt bk bn) hxt hlocks hq1 hq2 hq3 (⟨_, _, by rw [it_c (by decide), hs_73], rfl, _, _, _, _, _, rfl⟩) rfl hK hP hD hS
    obtain ⟨hs_73, rfl, rfl⟩ := hp
    have hP : va_P (gD G) vwC (wR G h dg n (rn leN t n (rn blN t n p)) fk fp t np no k c (bmp f k (bn bt)) o bt bk bn) H := hP
    have hD : va_D A (wR G h dg n (rn leN t n (rn blN t n p)) fk fp t np no k c (bmp f k (bn bt)) o bt bk bn) := hD
    refine W.eq (g2 := F0 mm 76 ls [.int (nI (kwF t (rn blN t n p) (rn leN t n (rn blN t n p))))]) rfl ?_
    refine lv_istore_n (lv' := [(2, .int (nI (kwF t (rn blN t n p) (rn leN t n (rn blN t n p))))), (1, .int (nI 0)), (0, .ref (h 0))]) hx hb d_R_opensItem_76 rfl hl (by decide) rfl (fun ls hl => ?_)
    refine lv_aload_n hx hb d_R_opensItem_77 rfl (lv_at hl 2 rfl) ?_
    refine y_call (y_runV (As := []) (rest := []) hx hb hml hown (c_R_skipBlanks l G h dg n (rn leN t n (rn blN t n p)) fk fp t np no k c (bmp f k (bn bt)) o bt bk bn  (by omega) (by omega) (ht)) (gV (n := 0) hg tk_333 tk_335 (gt_s 4 (by decide +kernel) (by decide +kernel)) tk_4 tk_336 (by decide +kernel) ⟨Nat.le_of_ble_eq_true rfl, Nat.le_of_ble_eq_true rfl⟩) (va_recv hK hP (ci := 1) (q0 := 0) rfl rfl) (y_pre hE hK hP hD hS hA [0, 1, 2, 3, 4, 5, 6, 7] rfl rfl) rfl rfl hl.1 rfl (lv_room (Nat.le_of_ble_eq_true rfl)) d_R_opensItem_78 ⟨Nat.le_of_ble_eq_true rfl, Nat.le_of_ble_eq_true rfl⟩) hP hD hS hA [0, 1, 2, 3, 4, 5, 6, 7] rfl (fun _ _ _ _ _ _ hp => False.elim hp) (fun v9 w9 H locs hp hlw hP hD hS => ?_)
    obtain ⟨rfl, rfl⟩ := hp
    have hP : va_P (gD G) vwC (wR G h dg n (rn blN t n (rn leN t n (rn blN t n p))) fk fp t np no k c (bmp f k (bn bt)) o bt bk bn) H := hP
    have hD : va_D A (wR G h dg n (rn blN t n (rn leN t n (rn blN t n p))) fk fp t np no k c (bmp f k (bn bt)) o bt bk bn) := hD
    refine W.eq (g2 := F0 mm 81 ls []) rfl ?_
    refine lv_aload_n hx hb d_R_opensItem_81 rfl (lv_at hl 2 rfl) ?_
    refine lv_iload_n hx hb d_R_opensItem_82 rfl (lv_at hl 0 rfl) ?_
    refine y_call (y_runV (As := [.int (nI (kwF t (rn blN t n p) (rn leN t n (rn blN t n p))))]) (rest := []) hx hb hml hown (c_R_keepKind hlt G h dg n (rn blN t n (rn leN t n (rn blN t n p))) fk fp t np no k c (bmp f k (bn bt)) o bt bk bn (kwF t (rn blN t n p) (rn leN t n (rn blN t n p))) (by omega) (by omega) (ht) (by omega) (by omega) (by omega) (by omega) (by omega)) (gV (n := 1) hg tk_447 tk_449 (gt_s 12 (by decide +kernel) (by decide +kernel)) tk_4 tk_450 (by decide +kernel) ⟨Nat.le_of_ble_eq_true rfl, Nat.le_of_ble_eq_true rfl⟩) (va_recv hK hP (ci := 1) (q0 := 0) rfl rfl) (y_pre hE hK hP hD hS hA [0, 1, 2, 3, 4, 5, 6, 7] rfl rfl) rfl rfl hl.1 rfl (lv_room (Nat.le_of_ble_eq_true rfl)) d_R_opensItem_83 ⟨Nat.le_of_ble_eq_true rfl, Nat.le_of_ble_eq_true rfl⟩) hP hD hS hA [0, 1, 2, 3, 4, 5, 6, 7] rfl (fun E9 w9 qx cx H locs hp hlw hP hD hS hq1 hq2 hq3 => ?_) (fun v9 w9 H locs hp hlw hP hD hS => ?_)
    · skip
      obtain ⟨hc_83, rfl, rfl⟩ := hp
      have hP : va_P (gD G) vwC (wR G h dg n (rn blN t n (rn leN t n (rn blN t n p))) 7 (rn blN t n (rn leN t n (rn blN t n p))) t np no k c (bmp f k (bn bt)) o bt bk bn) H := hP
      have hD : va_D A (wR G h dg n (rn blN t n (rn leN t n (rn blN t n p))) 7 (rn blN t n (rn leN t n (rn blN t n p))) t np no k c (bmp f k (bn bt)) o bt bk bn) := hD
      exact y_out (ws := wR G h dg n (rn blN t n (rn leN t n (rn blN t n p))) 7 (rn blN t n (rn leN t n (rn blN t n p))) t np no k c (bmp f k (bn bt)) o bt bk bn) hxt hlocks hq1 hq2 hq3 (⟨_, _, by rw [it_c (by decide), hs_73]; exact kb_7 hc_83, rfl, _, _, _, _, _, rfl⟩) rfl hK hP hD hS
    obtain ⟨hc_83, rfl, rfl⟩ := hp
    have hP : va_P (gD G) vwC (wR G h dg n (rn blN t n (rn leN t n (rn blN t n p))) fk fp t np no (k + 2) c (kpF (bmp f k (bn bt)) k (kwF t (rn blN t n p) (rn leN t n (rn blN t n p)))) o bt bk bn) H := hP
    have hD : va_D A (wR G h dg n (rn blN t n (rn leN t n (rn blN t n p))) fk fp t np no (k + 2) c (kpF (bmp f k (bn bt)) k (kwF t (rn blN t n p) (rn leN t n (rn blN t n p)))) o bt bk bn) := hD
    refine W.eq (g2 := F0 mm 86 ls []) rfl ?_
    refine lv_aload_n hx hb d_R_opensItem_86 rfl (lv_at hl 2 rfl) ?_
    refine lv_iload_n hx hb d_R_opensItem_87 rfl (lv_at hl 0 rfl) ?_
    refine y_call (y_runV (As := [.int (nI (kwF t (rn blN t n p) (rn leN t n (rn blN t n p))))]) (rest := []) hx hb hml hown (c_R_opensBracket hlt G h dg n (rn blN t n (rn leN t n (rn blN t n p))) fk fp t np no (k + 2) c (kpF (bmp f k (bn bt)) k (kwF t (rn blN t n p) (rn leN t n (rn blN t n p)))) o bt bk bn (kwF t (rn blN t n p) (rn leN t n (rn blN t n p))) (by omega) (by omega) (ht) (by omega) (by omega) (by omega) (by omega) (by omega) (by omega) (by omega)) (gV (n := 1) hg tk_459 tk_461 (gt_s 13 (by decide +kernel) (by decide +kernel)) tk_4 tk_462 (by decide +kernel) ⟨Nat.le_of_ble_eq_true rfl, Nat.le_of_ble_eq_true rfl⟩) (va_recv hK hP (ci := 1) (q0 := 0) rfl rfl) (y_pre hE hK hP hD hS hA [0, 1, 2, 3, 4, 5, 6, 7] rfl rfl) rfl rfl hl.1 rfl (lv_room (Nat.le_of_ble_eq_true rfl)) d_R_opensItem_88 ⟨Nat.le_of_ble_eq_true rfl, Nat.le_of_ble_eq_true rfl⟩) hP hD hS hA [0, 1, 2, 3, 4, 5, 6, 7] rfl (fun E9 w9 qx cx H locs hp hlw hP hD hS hq1 hq2 hq3 => ?_) (fun v9 w9 H locs hp hlw hP hD hS => ?_)
    · skip
      obtain ⟨a_88, b_88, q_88, hs_88, rfl, rfl⟩ := hp
      have hP : va_P (gD G) vwC (wR G h dg n q_88 a_88 b_88 t np no (k + 2) c (kpF (bmp f k (bn bt)) k (kwF t (rn blN t n p) (rn leN t n (rn blN t n p)))) o bt bk bn) H := hP
      have hD : va_D A (wR G h dg n q_88 a_88 b_88 t np no (k + 2) c (kpF (bmp f k (bn bt)) k (kwF t (rn blN t n p) (rn leN t n (rn blN t n p)))) o bt bk bn) := hD
      exact y_out (ws := wR G h dg n q_88 a_88 b_88 t np no (k + 2) c (kpF (bmp f k (bn bt)) k (kwF t (rn blN t n p) (rn leN t n (rn blN t n p)))) o bt bk bn) hxt hlocks hq1 hq2 hq3 (⟨_, _, by rw [it_c (by decide), hs_73]; exact kb_x hs_88 hc_83, rfl, _, _, _, _, _, rfl⟩) rfl hK hP hD hS
    obtain ⟨b9_88, q9_88, hs_88, rfl, rfl⟩ := hp
    have hP : va_P (gD G) vwC (wR G h dg n q9_88 fk fp t np no (k + 2) c (kpF (bmp f k (bn bt)) k (kwF t (rn blN t n p) (rn leN t n (rn blN t n p)))) o (cond b9_88 (bt + 1) bt) (cond b9_88 (upd bk (bt + 1) (nI (kwF t (rn blN t n p) (rn leN t n (rn blN t n p))))) bk) (cond b9_88 (upd bn (bt + 1) (nI ((k + 2) - 1))) bn)) H := hP
    have hD : va_D A (wR G h dg n q9_88 fk fp t np no (k + 2) c (kpF (bmp f k (bn bt)) k (kwF t (rn blN t n p) (rn leN t n (rn blN t n p)))) o (cond b9_88 (bt + 1) bt) (cond b9_88 (upd bk (bt + 1) (nI (kwF t (rn blN t n p) (rn leN t n (rn blN t n p))))) bk) (cond b9_88 (upd bn (bt + 1) (nI ((k + 2) - 1))) bn)) := hD
    refine W.eq (g2 := F0 mm 91 ls [.int (bz b9_88)]) rfl ?_
    exact yr_z (ws := wR G h dg n q9_88 fk fp t np no (k + 2) c (kpF (bmp f k (bn bt)) k (kwF t (rn blN t n p) (rn leN t n (rn blN t n p)))) o (cond b9_88 (bt + 1) bt) (cond b9_88 (upd bk (bt + 1) (nI (kwF t (rn blN t n p) (rn leN t n (rn blN t n p))))) bk) (cond b9_88 (upd bn (bt + 1) (nI ((k + 2) - 1))) bn)) hx hb hrt (bz_nar _) hlocks (⟨_, _, _, _, _, _, _, by rw [it_c (by decide), hs_73]; exact kb_r hs_88 hc_83, rfl, rfl⟩) rfl hK hP hD hS d_R_opensItem_91
  · skip
    have hlim : bt ≤ 52 := hlim
    refine lv_tableIn (off := 128) (tgt := 155) hx hb d_R_opensItem_27 (by decide) (by decide) rfl (by decide) ?_
    refine lv_aload_n hx hb d_R_opensItem_155 rfl (lv_at hl 1 rfl) ?_
    refine y_call (y_runV (As := []) (rest := []) hx hb hml hown (c_R_readPoint hlt G h dg n (rn blN t n p) fk fp t np no k c (bmp f k (bn bt)) o bt bk bn  (by omega) (by omega) (ht) (by omega) (by omega) (by omega) (by omega) (by omega)) (gV (n := 0) hg tk_476 tk_478 (gt_s 16 (by decide +kernel) (by decide +kernel)) tk_4 tk_479 (by decide +kernel) ⟨Nat.le_of_ble_eq_true rfl, Nat.le_of_ble_eq_true rfl⟩) (va_recv hK hP (ci := 1) (q0 := 0) rfl rfl) (y_pre hE hK hP hD hS hA [0, 1, 2, 3, 4, 5, 6, 7] rfl rfl) rfl rfl hl.1 rfl (lv_room (Nat.le_of_ble_eq_true rfl)) d_R_opensItem_156 ⟨Nat.le_of_ble_eq_true rfl, Nat.le_of_ble_eq_true rfl⟩) hP hD hS hA [0, 1, 2, 3, 4, 5, 6, 7] rfl (fun E9 w9 qx cx H locs hp hlw hP hD hS hq1 hq2 hq3 => ?_) (fun v9 w9 H locs hp hlw hP hD hS => ?_)
    · skip
      obtain ⟨a_156, b_156, hs_156, rfl, q_156, k2_156, f2_156, c2_156, o2_156, rfl⟩ := hp
      have hP : va_P (gD G) vwC (wR G h dg n q_156 a_156 b_156 t np no k2_156 c2_156 f2_156 o2_156 bt bk bn) H := hP
      have hD : va_D A (wR G h dg n q_156 a_156 b_156 t np no k2_156 c2_156 f2_156 o2_156 bt bk bn) := hD
      exact y_out (ws := wR G h dg n q_156 a_156 b_156 t np no k2_156 c2_156 f2_156 o2_156 bt bk bn) hxt hlocks hq1 hq2 hq3 (⟨_, _, by rw [it_d (by decide), hs_156], rfl, _, _, _, _, _, rfl⟩) rfl hK hP hD hS
    obtain ⟨q9_156, o9_156, hs_156, rfl, rfl⟩ := hp
    have hP : va_P (gD G) vwC (wR G h dg n q9_156 fk fp t np no k (c + 1) (bmp f k (bn bt)) o9_156 bt bk bn) H := hP
    have hD : va_D A (wR G h dg n q9_156 fk fp t np no k (c + 1) (bmp f k (bn bt)) o9_156 bt bk bn) := hD
    refine W.eq (g2 := F0 mm 159 ls []) rfl ?_
    refine lv_iconst (v := nI 0) hx hb d_R_opensItem_159 (by decide) ?_
    exact yr_z (ws := wR G h dg n q9_156 fk fp t np no k (c + 1) (bmp f k (bn bt)) o9_156 bt bk bn) hx hb hrt (rfl) hlocks (⟨false, _, _, _, _, _, _, by rw [it_d (by decide), hs_156], rfl, rfl⟩) rfl hK hP hD hS d_R_opensItem_160
  · skip
    have hlim : bt ≤ 52 := hlim
    refine lv_tableIn (off := 128) (tgt := 155) hx hb d_R_opensItem_27 (by decide) (by decide) rfl (by decide) ?_
    refine lv_aload_n hx hb d_R_opensItem_155 rfl (lv_at hl 1 rfl) ?_
    refine y_call (y_runV (As := []) (rest := []) hx hb hml hown (c_R_readPoint hlt G h dg n (rn blN t n p) fk fp t np no k c (bmp f k (bn bt)) o bt bk bn  (by omega) (by omega) (ht) (by omega) (by omega) (by omega) (by omega) (by omega)) (gV (n := 0) hg tk_476 tk_478 (gt_s 16 (by decide +kernel) (by decide +kernel)) tk_4 tk_479 (by decide +kernel) ⟨Nat.le_of_ble_eq_true rfl, Nat.le_of_ble_eq_true rfl⟩) (va_recv hK hP (ci := 1) (q0 := 0) rfl rfl) (y_pre hE hK hP hD hS hA [0, 1, 2, 3, 4, 5, 6, 7] rfl rfl) rfl rfl hl.1 rfl (lv_room (Nat.le_of_ble_eq_true rfl)) d_R_opensItem_156 ⟨Nat.le_of_ble_eq_true rfl, Nat.le_of_ble_eq_true rfl⟩) hP hD hS hA [0, 1, 2, 3, 4, 5, 6, 7] rfl (fun E9 w9 qx cx H locs hp hlw hP hD hS hq1 hq2 hq3 => ?_) (fun v9 w9 H locs hp hlw hP hD hS => ?_)
    · skip
      obtain ⟨a_156, b_156, hs_156, rfl, q_156, k2_156, f2_156, c2_156, o2_156, rfl⟩ := hp
      have hP : va_P (gD G) vwC (wR G h dg n q_156 a_156 b_156 t np no k2_156 c2_156 f2_156 o2_156 bt bk bn) H := hP
      have hD : va_D A (wR G h dg n q_156 a_156 b_156 t np no k2_156 c2_156 f2_156 o2_156 bt bk bn) := hD
      exact y_out (ws := wR G h dg n q_156 a_156 b_156 t np no k2_156 c2_156 f2_156 o2_156 bt bk bn) hxt hlocks hq1 hq2 hq3 (⟨_, _, by rw [it_d (by decide), hs_156], rfl, _, _, _, _, _, rfl⟩) rfl hK hP hD hS
    obtain ⟨q9_156, o9_156, hs_156, rfl, rfl⟩ := hp
    have hP : va_P (gD G) vwC (wR G h dg n q9_156 fk fp t np no k (c + 1) (bmp f k (bn bt)) o9_156 bt bk bn) H := hP
    have hD : va_D A (wR G h dg n q9_156 fk fp t np no k (c + 1) (bmp f k (bn bt)) o9_156 bt bk bn) := hD
    refine W.eq (g2 := F0 mm 159 ls []) rfl ?_
    refine lv_iconst (v := nI 0) hx hb d_R_opensItem_159 (by decide) ?_
    exact yr_z (ws := wR G h dg n q9_156 fk fp t np no k (c + 1) (bmp f k (bn bt)) o9_156 bt bk bn) hx hb hrt (rfl) hlocks (⟨false, _, _, _, _, _, _, by rw [it_d (by decide), hs_156], rfl, rfl⟩) rfl hK hP hD hS d_R_opensItem_160
  · skip
    have hlim : bt ≤ 52 := hlim
    refine lv_tableIn (off := 123) (tgt := 150) hx hb d_R_opensItem_27 (by decide) (by decide) rfl (by decide) ?_
    refine lv_aload_n hx hb d_R_opensItem_150 rfl (lv_at hl 1 rfl) ?_
    refine y_call (y_runV (As := []) (rest := []) hx hb hml hown (c_R_opensRing hlt G h dg n (rn blN t n p) fk fp t np no k c (bmp f k (bn bt)) o bt bk bn  (by omega) (by omega) (ht) (by omega) (by omega) (by omega) (by omega) (by omega) (by omega)) (gV (n := 0) hg tk_518 tk_520 (gt_s 22 (by decide +kernel) (by decide +kernel)) tk_4 tk_521 (by decide +kernel) ⟨Nat.le_of_ble_eq_true rfl, Nat.le_of_ble_eq_true rfl⟩) (va_recv hK hP (ci := 1) (q0 := 0) rfl rfl) (y_pre hE hK hP hD hS hA [0, 1, 2, 3, 4, 5, 6, 7] rfl rfl) rfl rfl hl.1 rfl (lv_room (Nat.le_of_ble_eq_true rfl)) d_R_opensItem_151 ⟨Nat.le_of_ble_eq_true rfl, Nat.le_of_ble_eq_true rfl⟩) hP hD hS hA [0, 1, 2, 3, 4, 5, 6, 7] rfl (fun E9 w9 qx cx H locs hp hlw hP hD hS hq1 hq2 hq3 => ?_) (fun v9 w9 H locs hp hlw hP hD hS => ?_)
    · skip
      obtain ⟨a_151, b_151, hs_151, rfl, q_151, k2_151, f2_151, c2_151, o2_151, rfl⟩ := hp
      have hP : va_P (gD G) vwC (wR G h dg n q_151 a_151 b_151 t np no k2_151 c2_151 f2_151 o2_151 bt bk bn) H := hP
      have hD : va_D A (wR G h dg n q_151 a_151 b_151 t np no k2_151 c2_151 f2_151 o2_151 bt bk bn) := hD
      exact y_out (ws := wR G h dg n q_151 a_151 b_151 t np no k2_151 c2_151 f2_151 o2_151 bt bk bn) hxt hlocks hq1 hq2 hq3 (⟨_, _, by exact it_3x hs_151, rfl, _, _, _, _, _, rfl⟩) rfl hK hP hD hS
    obtain ⟨hc_151, rfl, rfl⟩ := hp
    have hP : va_P (gD G) vwC (wR G h dg n ((rn blN t n p) + 1) fk fp t np no (k + 1) c (upd (bmp f k (bn bt)) k (nI 0)) o (bt + 1) (upd bk (bt + 1) (nI 8)) (upd bn (bt + 1) (nI k))) H := hP
    have hD : va_D A (wR G h dg n ((rn blN t n p) + 1) fk fp t np no (k + 1) c (upd (bmp f k (bn bt)) k (nI 0)) o (bt + 1) (upd bk (bt + 1) (nI 8)) (upd bn (bt + 1) (nI k))) := hD
    refine W.eq (g2 := F0 mm 154 ls [.int (bz true)]) rfl ?_
    exact yr_z (ws := wR G h dg n ((rn blN t n p) + 1) fk fp t np no (k + 1) c (upd (bmp f k (bn bt)) k (nI 0)) o (bt + 1) (upd bk (bt + 1) (nI 8)) (upd bn (bt + 1) (nI k))) hx hb hrt (bz_nar _) hlocks (⟨true, _, _, _, _, _, _, by rw [it_3, if_pos hc_151.1, if_pos hc_151.2], rfl, rfl⟩) rfl hK hP hD hS d_R_opensItem_154
  · skip
    have hlim : bt ≤ 51 := hlim
    refine lv_tableIn (off := 65) (tgt := 92) hx hb d_R_opensItem_27 (by decide) (by decide) rfl (by decide) ?_
    refine lv_aload_n hx hb d_R_opensItem_92 rfl (lv_at hl 1 rfl) ?_
    refine lv_iconst (v := nI 1) hx hb d_R_opensItem_93 (by decide) ?_
    refine y_call (y_runV (As := [.int (nI 1)]) (rest := []) hx hb hml hown (c_R_keepKind hlt G h dg n (rn blN t n p) fk fp t np no k c (bmp f k (bn bt)) o bt bk bn 1 (by omega) (by omega) (ht) (by omega) (by omega) (by omega) (by omega) (by omega)) (gV (n := 1) hg tk_447 tk_449 (gt_s 12 (by decide +kernel) (by decide +kernel)) tk_4 tk_450 (by decide +kernel) ⟨Nat.le_of_ble_eq_true rfl, Nat.le_of_ble_eq_true rfl⟩) (va_recv hK hP (ci := 1) (q0 := 0) rfl rfl) (y_pre hE hK hP hD hS hA [0, 1, 2, 3, 4, 5, 6, 7] rfl rfl) rfl rfl hl.1 rfl (lv_room (Nat.le_of_ble_eq_true rfl)) d_R_opensItem_94 ⟨Nat.le_of_ble_eq_true rfl, Nat.le_of_ble_eq_true rfl⟩) hP hD hS hA [0, 1, 2, 3, 4, 5, 6, 7] rfl (fun E9 w9 qx cx H locs hp hlw hP hD hS hq1 hq2 hq3 => ?_) (fun v9 w9 H locs hp hlw hP hD hS => ?_)
    · skip
      obtain ⟨hc_94, rfl, rfl⟩ := hp
      have hP : va_P (gD G) vwC (wR G h dg n (rn blN t n p) 7 (rn blN t n p) t np no k c (bmp f k (bn bt)) o bt bk bn) H := hP
      have hD : va_D A (wR G h dg n (rn blN t n p) 7 (rn blN t n p) t np no k c (bmp f k (bn bt)) o bt bk bn) := hD
      exact y_out (ws := wR G h dg n (rn blN t n p) 7 (rn blN t n p) t np no k c (bmp f k (bn bt)) o bt bk bn) hxt hlocks hq1 hq2 hq3 (⟨_, _, by exact it_4x hc_94, rfl, _, _, _, _, _, rfl⟩) rfl hK hP hD hS
    obtain ⟨hc_94, rfl, rfl⟩ := hp
    have hP : va_P (gD G) vwC (wR G h dg n (rn blN t n p) fk fp t np no (k + 2) c (kpF (bmp f k (bn bt)) k 1) o bt bk bn) H := hP
    have hD : va_D A (wR G h dg n (rn blN t n p) fk fp t np no (k + 2) c (kpF (bmp f k (bn bt)) k 1) o bt bk bn) := hD
    refine W.eq (g2 := F0 mm 97 ls []) rfl ?_
    refine lv_aload_n hx hb d_R_opensItem_97 rfl (lv_at hl 1 rfl) ?_
    refine y_call (y_runV (As := []) (rest := []) hx hb hml hown (c_R_here l G h dg n (rn blN t n p) fk fp t np no (k + 2) c (kpF (bmp f k (bn bt)) k 1) o bt bk bn  (by omega) (by omega) (ht)) (gV (n := 0) hg tk_356 tk_358 (gt_s 6 (by decide +kernel) (by decide +kernel)) tk_4 tk_359 (by decide +kernel) ⟨Nat.le_of_ble_eq_true rfl, Nat.le_of_ble_eq_true rfl⟩) (va_recv hK hP (ci := 1) (q0 := 0) rfl rfl) (y_pre hE hK hP hD hS hA [0, 1, 2, 3, 4, 5, 6, 7] rfl rfl) rfl rfl hl.1 rfl (lv_room (Nat.le_of_ble_eq_true rfl)) d_R_opensItem_98 ⟨Nat.le_of_ble_eq_true rfl, Nat.le_of_ble_eq_true rfl⟩) hP hD hS hA [0, 1, 2, 3, 4, 5, 6, 7] rfl (fun _ _ _ _ _ _ hp => False.elim hp) (fun v9 w9 H locs hp hlw hP hD hS => ?_)
    obtain ⟨rfl, rfl⟩ := hp
    have hP : va_P (gD G) vwC (wR G h dg n (rn blN t n p) fk fp t np no (k + 2) c (kpF (bmp f k (bn bt)) k 1) o bt bk bn) H := hP
    have hD : va_D A (wR G h dg n (rn blN t n p) fk fp t np no (k + 2) c (kpF (bmp f k (bn bt)) k 1) o bt bk bn) := hD
    refine W.eq (g2 := F0 mm 101 ls [.int (toI (hr t n (rn blN t n p)))]) rfl ?_
    refine y_call (y_runS (As := [.int (toI (hr t n (rn blN t n p)))]) (rest := []) hx hb hml hown (c_R_beginsNumber l G  (toI (hr t n (rn blN t n p))) ) (gS (n := 1) hg tk_367 tk_368 tk_4 tk_369 (by decide +kernel) ⟨Nat.le_of_ble_eq_true rfl, Nat.le_of_ble_eq_true rfl⟩) (y_pre hE hK hP hD hS hA [] rfl rfl) rfl rfl hl.1 rfl (lv_room (Nat.le_of_ble_eq_true rfl)) d_R_opensItem_101 ⟨Nat.le_of_ble_eq_true rfl, Nat.le_of_ble_eq_true rfl⟩) hP hD hS hA [] rfl (fun _ _ _ _ _ _ hp => False.elim hp) (fun v9 w9 H locs hp hlw hP hD hS => ?_)
    obtain ⟨rfl, rfl⟩ := hp
    have hP : va_P (gD G) vwC (wR G h dg n (rn blN t n p) fk fp t np no (k + 2) c (kpF (bmp f k (bn bt)) k 1) o bt bk bn) H := hP
    have hD : va_D A (wR G h dg n (rn blN t n p) fk fp t np no (k + 2) c (kpF (bmp f k (bn bt)) k 1) o bt bk bn) := hD
    refine W.eq (g2 := F0 mm 104 ls [.int (bz (isNu (toI (hr t n (rn blN t n p)))))]) rfl ?_
    refine yy_if_eq (P := isNu (toI (hr t n (rn blN t n p)))) (tgt := 129) hx hb d_R_opensItem_104 (by decide) (fun c104 => ?_) (fun c104 => ?_)
    · skip
      rw [(ch_h _ (Nat.lt_succ_of_le (hr_le ht _ _))).2.2.2] at c104
      refine lv_aload_n hx hb d_R_opensItem_129 rfl (lv_at hl 1 rfl) ?_
      refine lv_iconst (v := nI 1) hx hb d_R_opensItem_130 (by decide) ?_
      refine y_call (y_runV (As := [.int (nI 1)]) (rest := []) hx hb hml hown (c_R_opensBracket hlt G h dg n (rn blN t n p) fk fp t np no (k + 2) c (kpF (bmp f k (bn bt)) k 1) o bt bk bn 1 (by omega) (by omega) (ht) (by omega) (by omega) (by omega) (by omega) (by omega) (by omega) (by omega)) (gV (n := 1) hg tk_459 tk_461 (gt_s 13 (by decide +kernel) (by decide +kernel)) tk_4 tk_462 (by decide +kernel) ⟨Nat.le_of_ble_eq_true rfl, Nat.le_of_ble_eq_true rfl⟩) (va_recv hK hP (ci := 1) (q0 := 0) rfl rfl) (y_pre hE hK hP hD hS hA [0, 1, 2, 3, 4, 5, 6, 7] rfl rfl) rfl rfl hl.1 rfl (lv_room (Nat.le_of_ble_eq_true rfl)) d_R_opensItem_131 ⟨Nat.le_of_ble_eq_true rfl, Nat.le_of_ble_eq_true rfl⟩) hP hD hS hA [0, 1, 2, 3, 4, 5, 6, 7] rfl (fun E9 w9 qx cx H locs hp hlw hP hD hS hq1 hq2 hq3 => ?_) (fun v9 w9 H locs hp hlw hP hD hS => ?_)
      · skip
        obtain ⟨a_131, b_131, q_131, hs_131, rfl, rfl⟩ := hp
        have hP : va_P (gD G) vwC (wR G h dg n q_131 a_131 b_131 t np no (k + 2) c (kpF (bmp f k (bn bt)) k 1) o bt bk bn) H := hP
        have hD : va_D A (wR G h dg n q_131 a_131 b_131 t np no (k + 2) c (kpF (bmp f k (bn bt)) k 1) o bt bk bn) := hD
        exact y_out (ws := wR G h dg n q_131 a_131 b_131 t np no (k + 2) c (kpF (bmp f k (bn bt)) k 1) o bt bk bn) hxt hlocks hq1 hq2 hq3 (⟨_, _, by rw [it_4k (by rw [c104]; decide)]; exact kb_x hs_131 hc_94, rfl, _, _, _, _, _, rfl⟩) rfl hK hP hD hS
      obtain ⟨b9_131, q9_131, hs_131, rfl, rfl⟩ := hp
      have hP : va_P (gD G) vwC (wR G h dg n q9_131 fk fp t np no (k + 2) c (kpF (bmp f k (bn bt)) k 1) o (cond b9_131 (bt + 1) bt) (cond b9_131 (upd bk (bt + 1) (nI 1)) bk) (cond b9_131 (upd bn (bt + 1) (nI ((k + 2) - 1))) bn)) H := hP
      have hD : va_D A (wR G h dg n q9_131 fk fp t np no (k + 2) c (kpF (bmp f k (bn bt)) k 1) o (cond b9_131 (bt + 1) bt) (cond b9_131 (upd bk (bt + 1) (nI 1)) bk) (cond b9_131 (upd bn (bt + 1) (nI ((k + 2) - 1))) bn)) := hD
      refine W.eq (g2 := F0 mm 134 ls [.int (bz b9_131)]) rfl ?_
      exact yr_z (ws := wR G h dg n q9_131 fk fp t np no (k + 2) c (kpF (bmp f k (bn bt)) k 1) o (cond b9_131 (bt + 1) bt) (cond b9_131 (upd bk (bt + 1) (nI 1)) bk) (cond b9_131 (upd bn (bt + 1) (nI ((k + 2) - 1))) bn)) hx hb hrt (bz_nar _) hlocks (⟨_, _, _, _, _, _, _, by rw [it_4k (by rw [c104]; decide)]; exact kb_r hs_131 hc_94, rfl, rfl⟩) rfl hK hP hD hS d_R_opensItem_134
    · skip
      rw [(ch_h _ (Nat.lt_succ_of_le (hr_le ht _ _))).2.2.2] at c104
      refine lv_aload_n hx hb d_R_opensItem_107 rfl (lv_at hl 1 rfl) ?_
      refine va_get (D := gD G) (ci := 1) (v := .ref (h 2)) (C := "WordShapes$Reader") (T := TR) (N := 8) hx hb hg iw_R hown hK hP 0 rfl rfl 2 (by decide) (hg _ tk_88) (fun _ h9 => h9) rfl d_R_opensItem_108 ?_
      refine lv_aload_n hx hb d_R_opensItem_111 rfl (lv_at hl 1 rfl) ?_
      refine va_get (D := gD G) (ci := 1) (v := .ref (h 2)) (C := "WordShapes$Reader") (T := TR) (N := 8) hx hb hg iw_R hown hK hP 0 rfl rfl 2 (by decide) (hg _ tk_88) (fun _ h9 => h9) rfl d_R_opensItem_112 ?_
      refine va_getN (D := gD G) (ci := 2) (v := .int (nI (k + 2))) (C := "WordShapes$Shape") (T := TS) (N := 4) hx hb hg iw_S hown hK hP 2 rfl rfl 2 (by decide) (va_Nw.use rfl (nw_45 hE.1)) (fun _ h9 => h9) rfl d_R_opensItem_115 ?_
      refine lv_iconst (v := nI 1) hx hb d_R_opensItem_118 (by decide) ?_
      refine lv_isub hx hb d_R_opensItem_119 ?_
      refine y_eqi (y := nI (k + 1)) (pk_sub (by omega)) ?_
      refine y_call (y_runV (As := [.int (nI (k + 1))]) (rest := []) hx hb hml hown (c_S_addOneAt l G (fun i => h (i + 2)) np no (k + 2) c (kpF (bmp f k (bn bt)) k 1) o (nI (k + 1)) (by omega) (by omega)) (gV (n := 1) hg tk_344 tk_345 tk_346 tk_3 tk_347 (by decide +kernel) ⟨Nat.le_of_ble_eq_true rfl, Nat.le_of_ble_eq_true rfl⟩) (va_recv hK hP (ci := 2) (q0 := 2) rfl rfl) (y_pre hE hK hP hD hS hA [2, 3, 4] rfl rfl) rfl rfl hl.1 rfl (lv_room (Nat.le_of_ble_eq_true rfl)) d_R_opensItem_120 ⟨Nat.le_of_ble_eq_true rfl, Nat.le_of_ble_eq_true rfl⟩) hP hD hS hA [2, 3, 4] rfl (fun _ _ _ _ _ _ hp => False.elim hp) (fun v9 w9 H locs hp hlw hP hD hS => ?_)
      obtain ⟨rfl, rfl⟩ := hp
      have hP : va_P (gD G) vwC (wR G h dg n (rn blN t n p) fk fp t np no (k + 2) c (bmp (kpF (bmp f k (bn bt)) k 1) (k + 2) (nI (k + 1))) o bt bk bn) H := hP
      have hD : va_D A (wR G h dg n (rn blN t n p) fk fp t np no (k + 2) c (bmp (kpF (bmp f k (bn bt)) k 1) (k + 2) (nI (k + 1))) o bt bk bn) := hD
      refine W.eq (g2 := F0 mm 123 ls []) rfl ?_
      refine lv_aload_n hx hb d_R_opensItem_123 rfl (lv_at hl 1 rfl) ?_
      refine y_call (y_runV (As := []) (rest := []) hx hb hml hown (c_R_readPoint hlt G h dg n (rn blN t n p) fk fp t np no (k + 2) c (bmp (kpF (bmp f k (bn bt)) k 1) (k + 2) (nI (k + 1))) o bt bk bn  (by omega) (by omega) (ht) (by omega) (by omega) (by omega) (by omega) (by omega)) (gV (n := 0) hg tk_476 tk_478 (gt_s 16 (by decide +kernel) (by decide +kernel)) tk_4 tk_479 (by decide +kernel) ⟨Nat.le_of_ble_eq_true rfl, Nat.le_of_ble_eq_true rfl⟩) (va_recv hK hP (ci := 1) (q0 := 0) rfl rfl) (y_pre hE hK hP hD hS hA [0, 1, 2, 3, 4, 5, 6, 7] rfl rfl) rfl rfl hl.1 rfl (lv_room (Nat.le_of_ble_eq_true rfl)) d_R_opensItem_124 ⟨Nat.le_of_ble_eq_true rfl, Nat.le_of_ble_eq_true rfl⟩) hP hD hS hA [0, 1, 2, 3, 4, 5, 6, 7] rfl (fun E9 w9 qx cx H locs hp hlw hP hD hS hq1 hq2 hq3 => ?_) (fun v9 w9 H locs hp hlw hP hD hS => ?_)
      · skip
        obtain ⟨a_124, b_124, hs_124, rfl, q_124, k2_124, f2_124, c2_124, o2_124, rfl⟩ := hp
        have hP : va_P (gD G) vwC (wR G h dg n q_124 a_124 b_124 t np no k2_124 c2_124 f2_124 o2_124 bt bk bn) H := hP
        have hD : va_D A (wR G h dg n q_124 a_124 b_124 t np no k2_124 c2_124 f2_124 o2_124 bt bk bn) := hD
        exact y_out (ws := wR G h dg n q_124 a_124 b_124 t np no k2_124 c2_124 f2_124 o2_124 bt bk bn) hxt hlocks hq1 hq2 hq3 (⟨_, _, by rw [it_4n c104 hc_94, hs_124], rfl, _, _, _, _, _, rfl⟩) rfl hK hP hD hS
      obtain ⟨q9_124, o9_124, hs_124, rfl, rfl⟩ := hp
      have hP : va_P (gD G) vwC (wR G h dg n q9_124 fk fp t np no (k + 2) (c + 1) (bmp (kpF (bmp f k (bn bt)) k 1) (k + 2) (nI (k + 1))) o9_124 bt bk bn) H := hP
      have hD : va_D A (wR G h dg n q9_124 fk fp t np no (k + 2) (c + 1) (bmp (kpF (bmp f k (bn bt)) k 1) (k + 2) (nI (k + 1))) o9_124 bt bk bn) := hD
      refine W.eq (g2 := F0 mm 127 ls []) rfl ?_
      refine lv_iconst (v := nI 0) hx hb d_R_opensItem_127 (by decide) ?_
      exact yr_z (ws := wR G h dg n q9_124 fk fp t np no (k + 2) (c + 1) (bmp (kpF (bmp f k (bn bt)) k 1) (k + 2) (nI (k + 1))) o9_124 bt bk bn) hx hb hrt (rfl) hlocks (⟨false, _, _, _, _, _, _, by rw [it_4n c104 hc_94, hs_124], rfl, rfl⟩) rfl hK hP hD hS d_R_opensItem_128
  · skip
    have hlim : bt ≤ 51 := hlim
    refine lv_tableIn (off := 108) (tgt := 135) hx hb d_R_opensItem_27 (by decide) (by decide) rfl (by decide) ?_
    refine lv_aload_n hx hb d_R_opensItem_135 rfl (lv_at hl 1 rfl) ?_
    refine lv_iload_n hx hb d_R_opensItem_136 rfl (lv_at hl 0 rfl) ?_
    refine lv_iconst (v := nI 3) hx hb d_R_opensItem_137 (by decide) ?_
    refine lv_isub hx hb d_R_opensItem_138 ?_
    refine y_eqi (y := nI 2) (pk_sub (by omega)) ?_
    refine y_call (y_runV (As := [.int (nI 2)]) (rest := []) hx hb hml hown (c_R_keepKind hlt G h dg n (rn blN t n p) fk fp t np no k c (bmp f k (bn bt)) o bt bk bn 2 (by omega) (by omega) (ht) (by omega) (by omega) (by omega) (by omega) (by omega)) (gV (n := 1) hg tk_447 tk_449 (gt_s 12 (by decide +kernel) (by decide +kernel)) tk_4 tk_450 (by decide +kernel) ⟨Nat.le_of_ble_eq_true rfl, Nat.le_of_ble_eq_true rfl⟩) (va_recv hK hP (ci := 1) (q0 := 0) rfl rfl) (y_pre hE hK hP hD hS hA [0, 1, 2, 3, 4, 5, 6, 7] rfl rfl) rfl rfl hl.1 rfl (lv_room (Nat.le_of_ble_eq_true rfl)) d_R_opensItem_139 ⟨Nat.le_of_ble_eq_true rfl, Nat.le_of_ble_eq_true rfl⟩) hP hD hS hA [0, 1, 2, 3, 4, 5, 6, 7] rfl (fun E9 w9 qx cx H locs hp hlw hP hD hS hq1 hq2 hq3 => ?_) (fun v9 w9 H locs hp hlw hP hD hS => ?_)
    · skip
      obtain ⟨hc_139, rfl, rfl⟩ := hp
      have hP : va_P (gD G) vwC (wR G h dg n (rn blN t n p) 7 (rn blN t n p) t np no k c (bmp f k (bn bt)) o bt bk bn) H := hP
      have hD : va_D A (wR G h dg n (rn blN t n p) 7 (rn blN t n p) t np no k c (bmp f k (bn bt)) o bt bk bn) := hD
      exact y_out (ws := wR G h dg n (rn blN t n p) 7 (rn blN t n p) t np no k c (bmp f k (bn bt)) o bt bk bn) hxt hlocks hq1 hq2 hq3 (⟨_, _, by rw [it_56 (by decide)]; exact kb_7 hc_139, rfl, _, _, _, _, _, rfl⟩) rfl hK hP hD hS
    obtain ⟨hc_139, rfl, rfl⟩ := hp
    have hP : va_P (gD G) vwC (wR G h dg n (rn blN t n p) fk fp t np no (k + 2) c (kpF (bmp f k (bn bt)) k 2) o bt bk bn) H := hP
    have hD : va_D A (wR G h dg n (rn blN t n p) fk fp t np no (k + 2) c (kpF (bmp f k (bn bt)) k 2) o bt bk bn) := hD
    refine W.eq (g2 := F0 mm 142 ls []) rfl ?_
    refine lv_aload_n hx hb d_R_opensItem_142 rfl (lv_at hl 1 rfl) ?_
    refine lv_iload_n hx hb d_R_opensItem_143 rfl (lv_at hl 0 rfl) ?_
    refine lv_iconst (v := nI 3) hx hb d_R_opensItem_144 (by decide) ?_
    refine lv_isub hx hb d_R_opensItem_145 ?_
    refine y_eqi (y := nI 2) (pk_sub (by omega)) ?_
    refine y_call (y_runV (As := [.int (nI 2)]) (rest := []) hx hb hml hown (c_R_opensBracket hlt G h dg n (rn blN t n p) fk fp t np no (k + 2) c (kpF (bmp f k (bn bt)) k 2) o bt bk bn 2 (by omega) (by omega) (ht) (by omega) (by omega) (by omega) (by omega) (by omega) (by omega) (by omega)) (gV (n := 1) hg tk_459 tk_461 (gt_s 13 (by decide +kernel) (by decide +kernel)) tk_4 tk_462 (by decide +kernel) ⟨Nat.le_of_ble_eq_true rfl, Nat.le_of_ble_eq_true rfl⟩) (va_recv hK hP (ci := 1) (q0 := 0) rfl rfl) (y_pre hE hK hP hD hS hA [0, 1, 2, 3, 4, 5, 6, 7] rfl rfl) rfl rfl hl.1 rfl (lv_room (Nat.le_of_ble_eq_true rfl)) d_R_opensItem_146 ⟨Nat.le_of_ble_eq_true rfl, Nat.le_of_ble_eq_true rfl⟩) hP hD hS hA [0, 1, 2, 3, 4, 5, 6, 7] rfl (fun E9 w9 qx cx H locs hp hlw hP hD hS hq1 hq2 hq3 => ?_) (fun v9 w9 H locs hp hlw hP hD hS => ?_)
    · skip
      obtain ⟨a_146, b_146, q_146, hs_146, rfl, rfl⟩ := hp
      have hP : va_P (gD G) vwC (wR G h dg n q_146 a_146 b_146 t np no (k + 2) c (kpF (bmp f k (bn bt)) k 2) o bt bk bn) H := hP
      have hD : va_D A (wR G h dg n q_146 a_146 b_146 t np no (k + 2) c (kpF (bmp f k (bn bt)) k 2) o bt bk bn) := hD
      exact y_out (ws := wR G h dg n q_146 a_146 b_146 t np no (k + 2) c (kpF (bmp f k (bn bt)) k 2) o bt bk bn) hxt hlocks hq1 hq2 hq3 (⟨_, _, by rw [it_56 (by decide)]; exact kb_x hs_146 hc_139, rfl, _, _, _, _, _, rfl⟩) rfl hK hP hD hS
    obtain ⟨b9_146, q9_146, hs_146, rfl, rfl⟩ := hp
    have hP : va_P (gD G) vwC (wR G h dg n q9_146 fk fp t np no (k + 2) c (kpF (bmp f k (bn bt)) k 2) o (cond b9_146 (bt + 1) bt) (cond b9_146 (upd bk (bt + 1) (nI 2)) bk) (cond b9_146 (upd bn (bt + 1) (nI ((k + 2) - 1))) bn)) H := hP
    have hD : va_D A (wR G h dg n q9_146 fk fp t np no (k + 2) c (kpF (bmp f k (bn bt)) k 2) o (cond b9_146 (bt + 1) bt) (cond b9_146 (upd bk (bt + 1) (nI 2)) bk) (cond b9_146 (upd bn (bt + 1) (nI ((k + 2) - 1))) bn)) := hD
    refine W.eq (g2 := F0 mm 149 ls [.int (bz b9_146)]) rfl ?_
    exact yr_z (ws := wR G h dg n q9_146 fk fp t np no (k + 2) c (kpF (bmp f k (bn bt)) k 2) o (cond b9_146 (bt + 1) bt) (cond b9_146 (upd bk (bt + 1) (nI 2)) bk) (cond b9_146 (upd bn (bt + 1) (nI ((k + 2) - 1))) bn)) hx hb hrt (bz_nar _) hlocks (⟨_, _, _, _, _, _, _, by rw [it_56 (by decide)]; exact kb_r hs_146 hc_139, rfl, rfl⟩) rfl hK hP hD hS d_R_opensItem_149
  · skip
    have hlim : bt ≤ 51 := hlim
    refine lv_tableIn (off := 108) (tgt := 135) hx hb d_R_opensItem_27 (by decide) (by decide) rfl (by decide) ?_
    refine lv_aload_n hx hb d_R_opensItem_135 rfl (lv_at hl 1 rfl) ?_
    refine lv_iload_n hx hb d_R_opensItem_136 rfl (lv_at hl 0 rfl) ?_
    refine lv_iconst (v := nI 3) hx hb d_R_opensItem_137 (by decide) ?_
    refine lv_isub hx hb d_R_opensItem_138 ?_
    refine y_eqi (y := nI 3) (pk_sub (by omega)) ?_
    refine y_call (y_runV (As := [.int (nI 3)]) (rest := []) hx hb hml hown (c_R_keepKind hlt G h dg n (rn blN t n p) fk fp t np no k c (bmp f k (bn bt)) o bt bk bn 3 (by omega) (by omega) (ht) (by omega) (by omega) (by omega) (by omega) (by omega)) (gV (n := 1) hg tk_447 tk_449 (gt_s 12 (by decide +kernel) (by decide +kernel)) tk_4 tk_450 (by decide +kernel) ⟨Nat.le_of_ble_eq_true rfl, Nat.le_of_ble_eq_true rfl⟩) (va_recv hK hP (ci := 1) (q0 := 0) rfl rfl) (y_pre hE hK hP hD hS hA [0, 1, 2, 3, 4, 5, 6, 7] rfl rfl) rfl rfl hl.1 rfl (lv_room (Nat.le_of_ble_eq_true rfl)) d_R_opensItem_139 ⟨Nat.le_of_ble_eq_true rfl, Nat.le_of_ble_eq_true rfl⟩) hP hD hS hA [0, 1, 2, 3, 4, 5, 6, 7] rfl (fun E9 w9 qx cx H locs hp hlw hP hD hS hq1 hq2 hq3 => ?_) (fun v9 w9 H locs hp hlw hP hD hS => ?_)
    · skip
      obtain ⟨hc_139, rfl, rfl⟩ := hp
      have hP : va_P (gD G) vwC (wR G h dg n (rn blN t n p) 7 (rn blN t n p) t np no k c (bmp f k (bn bt)) o bt bk bn) H := hP
      have hD : va_D A (wR G h dg n (rn blN t n p) 7 (rn blN t n p) t np no k c (bmp f k (bn bt)) o bt bk bn) := hD
      exact y_out (ws := wR G h dg n (rn blN t n p) 7 (rn blN t n p) t np no k c (bmp f k (bn bt)) o bt bk bn) hxt hlocks hq1 hq2 hq3 (⟨_, _, by rw [it_56 (by decide)]; exact kb_7 hc_139, rfl, _, _, _, _, _, rfl⟩) rfl hK hP hD hS
    obtain ⟨hc_139, rfl, rfl⟩ := hp
    have hP : va_P (gD G) vwC (wR G h dg n (rn blN t n p) fk fp t np no (k + 2) c (kpF (bmp f k (bn bt)) k 3) o bt bk bn) H := hP
    have hD : va_D A (wR G h dg n (rn blN t n p) fk fp t np no (k + 2) c (kpF (bmp f k (bn bt)) k 3) o bt bk bn) := hD
    refine W.eq (g2 := F0 mm 142 ls []) rfl ?_
    refine lv_aload_n hx hb d_R_opensItem_142 rfl (lv_at hl 1 rfl) ?_
    refine lv_iload_n hx hb d_R_opensItem_143 rfl (lv_at hl 0 rfl) ?_
    refine lv_iconst (v := nI 3) hx hb d_R_opensItem_144 (by decide) ?_
    refine lv_isub hx hb d_R_opensItem_145 ?_
    refine y_eqi (y := nI 3) (pk_sub (by omega)) ?_
    refine y_call (y_runV (As := [.int (nI 3)]) (rest := []) hx hb hml hown (c_R_opensBracket hlt G h dg n (rn blN t n p) fk fp t np no (k + 2) c (kpF (bmp f k (bn bt)) k 3) o bt bk bn 3 (by omega) (by omega) (ht) (by omega) (by omega) (by omega) (by omega) (by omega) (by omega) (by omega)) (gV (n := 1) hg tk_459 tk_461 (gt_s 13 (by decide +kernel) (by decide +kernel)) tk_4 tk_462 (by decide +kernel) ⟨Nat.le_of_ble_eq_true rfl, Nat.le_of_ble_eq_true rfl⟩) (va_recv hK hP (ci := 1) (q0 := 0) rfl rfl) (y_pre hE hK hP hD hS hA [0, 1, 2, 3, 4, 5, 6, 7] rfl rfl) rfl rfl hl.1 rfl (lv_room (Nat.le_of_ble_eq_true rfl)) d_R_opensItem_146 ⟨Nat.le_of_ble_eq_true rfl, Nat.le_of_ble_eq_true rfl⟩) hP hD hS hA [0, 1, 2, 3, 4, 5, 6, 7] rfl (fun E9 w9 qx cx H locs hp hlw hP hD hS hq1 hq2 hq3 => ?_) (fun v9 w9 H locs hp hlw hP hD hS => ?_)
    · skip
      obtain ⟨a_146, b_146, q_146, hs_146, rfl, rfl⟩ := hp
      have hP : va_P (gD G) vwC (wR G h dg n q_146 a_146 b_146 t np no (k + 2) c (kpF (bmp f k (bn bt)) k 3) o bt bk bn) H := hP
      have hD : va_D A (wR G h dg n q_146 a_146 b_146 t np no (k + 2) c (kpF (bmp f k (bn bt)) k 3) o bt bk bn) := hD
      exact y_out (ws := wR G h dg n q_146 a_146 b_146 t np no (k + 2) c (kpF (bmp f k (bn bt)) k 3) o bt bk bn) hxt hlocks hq1 hq2 hq3 (⟨_, _, by rw [it_56 (by decide)]; exact kb_x hs_146 hc_139, rfl, _, _, _, _, _, rfl⟩) rfl hK hP hD hS
    obtain ⟨b9_146, q9_146, hs_146, rfl, rfl⟩ := hp
    have hP : va_P (gD G) vwC (wR G h dg n q9_146 fk fp t np no (k + 2) c (kpF (bmp f k (bn bt)) k 3) o (cond b9_146 (bt + 1) bt) (cond b9_146 (upd bk (bt + 1) (nI 3)) bk) (cond b9_146 (upd bn (bt + 1) (nI ((k + 2) - 1))) bn)) H := hP
    have hD : va_D A (wR G h dg n q9_146 fk fp t np no (k + 2) c (kpF (bmp f k (bn bt)) k 3) o (cond b9_146 (bt + 1) bt) (cond b9_146 (upd bk (bt + 1) (nI 3)) bk) (cond b9_146 (upd bn (bt + 1) (nI ((k + 2) - 1))) bn)) := hD
    refine W.eq (g2 := F0 mm 149 ls [.int (bz b9_146)]) rfl ?_
    exact yr_z (ws := wR G h dg n q9_146 fk fp t np no (k + 2) c (kpF (bmp f k (bn bt)) k 3) o (cond b9_146 (bt + 1) bt) (cond b9_146 (upd bk (bt + 1) (nI 3)) bk) (cond b9_146 (upd bn (bt + 1) (nI ((k + 2) - 1))) bn)) hx hb hrt (bz_nar _) hlocks (⟨_, _, _, _, _, _, _, by rw [it_56 (by decide)]; exact kb_r hs_146 hc_139, rfl, rfl⟩) rfl hK hP hD hS d_R_opensItem_149
  · skip
    have hlim : bt ≤ 50 := hlim
    refine lv_tableIn (off := 45) (tgt := 72) hx hb d_R_opensItem_27 (by decide) (by decide) rfl (by decide) ?_
    refine lv_aload_n hx hb d_R_opensItem_72 rfl (lv_at hl 1 rfl) ?_
    refine y_call (y_runV (As := []) (rest := []) hx hb hml hown (c_R_readKind hlt G h dg n (rn blN t n p) fk fp t np no k c (bmp f k (bn bt)) o bt bk bn  (by omega) (by omega) (ht) (by omega)) (gV (n := 0) hg tk_352 tk_354 (gt_s 5 (by decide +kernel) (by decide +kernel)) tk_4 tk_355 (by decide +kernel) ⟨Nat.le_of_ble_eq_true rfl, Nat.le_of_ble_eq_true rfl⟩) (va_recv hK hP (ci := 1) (q0 := 0) rfl rfl) (y_pre hE hK hP hD hS hA [0, 1, 2, 3, 4, 5, 6, 7] rfl rfl) rfl rfl hl.1 rfl (lv_room (Nat.le_of_ble_eq_true rfl)) d_R_opensItem_73 ⟨Nat.le_of_ble_eq_true rfl, Nat.le_of_ble_eq_true rfl⟩) hP hD hS hA [0, 1, 2, 3, 4, 5, 6, 7] rfl (fun E9 w9 qx cx H locs hp hlw hP hD hS hq1 hq2 hq3 => ?_) (fun v9 w9 H locs hp hlw hP hD hS => ?_)
    · skip
      obtain ⟨a_73, b_73, q_73, hs_73, rfl, rfl⟩ := hp
      have hP : va_P (gD G) vwC (wR G h dg n q_73 a_73 b_73 t np no k c (bmp f k (bn bt)) o bt bk bn) H := hP
      have hD : va_D A (wR G h dg n q_73 a_73 b_73 t np no k c (bmp f k (bn bt)) o bt bk bn) := hD
      exact y_out (ws := wR G h dg n q_73 a_73 b_73 t np no k c (bmp f k (bn bt)) o bt bk bn) hxt hlocks hq1 hq2 hq3 (⟨_, _, by rw [it_c (by decide), hs_73], rfl, _, _, _, _, _, rfl⟩) rfl hK hP hD hS
    obtain ⟨hs_73, rfl, rfl⟩ := hp
    have hP : va_P (gD G) vwC (wR G h dg n (rn leN t n (rn blN t n p)) fk fp t np no k c (bmp f k (bn bt)) o bt bk bn) H := hP
    have hD : va_D A (wR G h dg n (rn leN t n (rn blN t n p)) fk fp t np no k c (bmp f k (bn bt)) o bt bk bn) := hD
    refine W.eq (g2 := F0 mm 76 ls [.int (nI (kwF t (rn blN t n p) (rn leN t n (rn blN t n p))))]) rfl ?_
    refine lv_istore_n (lv' := [(2, .int (nI (kwF t (rn blN t n p) (rn leN t n (rn blN t n p))))), (1, .int (nI 7)), (0, .ref (h 0))]) hx hb d_R_opensItem_76 rfl hl (by decide) rfl (fun ls hl => ?_)
    refine lv_aload_n hx hb d_R_opensItem_77 rfl (lv_at hl 2 rfl) ?_
    refine y_call (y_runV (As := []) (rest := []) hx hb hml hown (c_R_skipBlanks l G h dg n (rn leN t n (rn blN t n p)) fk fp t np no k c (bmp f k (bn bt)) o bt bk bn  (by omega) (by omega) (ht)) (gV (n := 0) hg tk_333 tk_335 (gt_s 4 (by decide +kernel) (by decide +kernel)) tk_4 tk_336 (by decide +kernel) ⟨Nat.le_of_ble_eq_true rfl, Nat.le_of_ble_eq_true rfl⟩) (va_recv hK hP (ci := 1) (q0 := 0) rfl rfl) (y_pre hE hK hP hD hS hA [0, 1, 2, 3, 4, 5, 6, 7] rfl rfl) rfl rfl hl.1 rfl (lv_room (Nat.le_of_ble_eq_true rfl)) d_R_opensItem_78 ⟨Nat.le_of_ble_eq_true rfl, Nat.le_of_ble_eq_true rfl⟩) hP hD hS hA [0, 1, 2, 3, 4, 5, 6, 7] rfl (fun _ _ _ _ _ _ hp => False.elim hp) (fun v9 w9 H locs hp hlw hP hD hS => ?_)
    obtain ⟨rfl, rfl⟩ := hp
    have hP : va_P (gD G) vwC (wR G h dg n (rn blN t n (rn leN t n (rn blN t n p))) fk fp t np no k c (bmp f k (bn bt)) o bt bk bn) H := hP
    have hD : va_D A (wR G h dg n (rn blN t n (rn leN t n (rn blN t n p))) fk fp t np no k c (bmp f k (bn bt)) o bt bk bn) := hD
    refine W.eq (g2 := F0 mm 81 ls []) rfl ?_
    refine lv_aload_n hx hb d_R_opensItem_81 rfl (lv_at hl 2 rfl) ?_
    refine lv_iload_n hx hb d_R_opensItem_82 rfl (lv_at hl 0 rfl) ?_
    refine y_call (y_runV (As := [.int (nI (kwF t (rn blN t n p) (rn leN t n (rn blN t n p))))]) (rest := []) hx hb hml hown (c_R_keepKind hlt G h dg n (rn blN t n (rn leN t n (rn blN t n p))) fk fp t np no k c (bmp f k (bn bt)) o bt bk bn (kwF t (rn blN t n p) (rn leN t n (rn blN t n p))) (by omega) (by omega) (ht) (by omega) (by omega) (by omega) (by omega) (by omega)) (gV (n := 1) hg tk_447 tk_449 (gt_s 12 (by decide +kernel) (by decide +kernel)) tk_4 tk_450 (by decide +kernel) ⟨Nat.le_of_ble_eq_true rfl, Nat.le_of_ble_eq_true rfl⟩) (va_recv hK hP (ci := 1) (q0 := 0) rfl rfl) (y_pre hE hK hP hD hS hA [0, 1, 2, 3, 4, 5, 6, 7] rfl rfl) rfl rfl hl.1 rfl (lv_room (Nat.le_of_ble_eq_true rfl)) d_R_opensItem_83 ⟨Nat.le_of_ble_eq_true rfl, Nat.le_of_ble_eq_true rfl⟩) hP hD hS hA [0, 1, 2, 3, 4, 5, 6, 7] rfl (fun E9 w9 qx cx H locs hp hlw hP hD hS hq1 hq2 hq3 => ?_) (fun v9 w9 H locs hp hlw hP hD hS => ?_)
    · skip
      obtain ⟨hc_83, rfl, rfl⟩ := hp
      have hP : va_P (gD G) vwC (wR G h dg n (rn blN t n (rn leN t n (rn blN t n p))) 7 (rn blN t n (rn leN t n (rn blN t n p))) t np no k c (bmp f k (bn bt)) o bt bk bn) H := hP
      have hD : va_D A (wR G h dg n (rn blN t n (rn leN t n (rn blN t n p))) 7 (rn blN t n (rn leN t n (rn blN t n p))) t np no k c (bmp f k (bn bt)) o bt bk bn) := hD
      exact y_out (ws := wR G h dg n (rn blN t n (rn leN t n (rn blN t n p))) 7 (rn blN t n (rn leN t n (rn blN t n p))) t np no k c (bmp f k (bn bt)) o bt bk bn) hxt hlocks hq1 hq2 hq3 (⟨_, _, by rw [it_c (by decide), hs_73]; exact kb_7 hc_83, rfl, _, _, _, _, _, rfl⟩) rfl hK hP hD hS
    obtain ⟨hc_83, rfl, rfl⟩ := hp
    have hP : va_P (gD G) vwC (wR G h dg n (rn blN t n (rn leN t n (rn blN t n p))) fk fp t np no (k + 2) c (kpF (bmp f k (bn bt)) k (kwF t (rn blN t n p) (rn leN t n (rn blN t n p)))) o bt bk bn) H := hP
    have hD : va_D A (wR G h dg n (rn blN t n (rn leN t n (rn blN t n p))) fk fp t np no (k + 2) c (kpF (bmp f k (bn bt)) k (kwF t (rn blN t n p) (rn leN t n (rn blN t n p)))) o bt bk bn) := hD
    refine W.eq (g2 := F0 mm 86 ls []) rfl ?_
    refine lv_aload_n hx hb d_R_opensItem_86 rfl (lv_at hl 2 rfl) ?_
    refine lv_iload_n hx hb d_R_opensItem_87 rfl (lv_at hl 0 rfl) ?_
    refine y_call (y_runV (As := [.int (nI (kwF t (rn blN t n p) (rn leN t n (rn blN t n p))))]) (rest := []) hx hb hml hown (c_R_opensBracket hlt G h dg n (rn blN t n (rn leN t n (rn blN t n p))) fk fp t np no (k + 2) c (kpF (bmp f k (bn bt)) k (kwF t (rn blN t n p) (rn leN t n (rn blN t n p)))) o bt bk bn (kwF t (rn blN t n p) (rn leN t n (rn blN t n p))) (by omega) (by omega) (ht) (by omega) (by omega) (by omega) (by omega) (by omega) (by omega) (by omega)) (gV (n := 1) hg tk_459 tk_461 (gt_s 13 (by decide +kernel) (by decide +kernel)) tk_4 tk_462 (by decide +kernel) ⟨Nat.le_of_ble_eq_true rfl, Nat.le_of_ble_eq_true rfl⟩) (va_recv hK hP (ci := 1) (q0 := 0) rfl rfl) (y_pre hE hK hP hD hS hA [0, 1, 2, 3, 4, 5, 6, 7] rfl rfl) rfl rfl hl.1 rfl (lv_room (Nat.le_of_ble_eq_true rfl)) d_R_opensItem_88 ⟨Nat.le_of_ble_eq_true rfl, Nat.le_of_ble_eq_true rfl⟩) hP hD hS hA [0, 1, 2, 3, 4, 5, 6, 7] rfl (fun E9 w9 qx cx H locs hp hlw hP hD hS hq1 hq2 hq3 => ?_) (fun v9 w9 H locs hp hlw hP hD hS => ?_)
    · skip
      obtain ⟨a_88, b_88, q_88, hs_88, rfl, rfl⟩ := hp
      have hP : va_P (gD G) vwC (wR G h dg n q_88 a_88 b_88 t np no (k + 2) c (kpF (bmp f k (bn bt)) k (kwF t (rn blN t n p) (rn leN t n (rn blN t n p)))) o bt bk bn) H := hP
      have hD : va_D A (wR G h dg n q_88 a_88 b_88 t np no (k + 2) c (kpF (bmp f k (bn bt)) k (kwF t (rn blN t n p) (rn leN t n (rn blN t n p)))) o bt bk bn) := hD
      exact y_out (ws := wR G h dg n q_88 a_88 b_88 t np no (k + 2) c (kpF (bmp f k (bn bt)) k (kwF t (rn blN t n p) (rn leN t n (rn blN t n p)))) o bt bk bn) hxt hlocks hq1 hq2 hq3 (⟨_, _, by rw [it_c (by decide), hs_73]; exact kb_x hs_88 hc_83, rfl, _, _, _, _, _, rfl⟩) rfl hK hP hD hS
    obtain ⟨b9_88, q9_88, hs_88, rfl, rfl⟩ := hp
    have hP : va_P (gD G) vwC (wR G h dg n q9_88 fk fp t np no (k + 2) c (kpF (bmp f k (bn bt)) k (kwF t (rn blN t n p) (rn leN t n (rn blN t n p)))) o (cond b9_88 (bt + 1) bt) (cond b9_88 (upd bk (bt + 1) (nI (kwF t (rn blN t n p) (rn leN t n (rn blN t n p))))) bk) (cond b9_88 (upd bn (bt + 1) (nI ((k + 2) - 1))) bn)) H := hP
    have hD : va_D A (wR G h dg n q9_88 fk fp t np no (k + 2) c (kpF (bmp f k (bn bt)) k (kwF t (rn blN t n p) (rn leN t n (rn blN t n p)))) o (cond b9_88 (bt + 1) bt) (cond b9_88 (upd bk (bt + 1) (nI (kwF t (rn blN t n p) (rn leN t n (rn blN t n p))))) bk) (cond b9_88 (upd bn (bt + 1) (nI ((k + 2) - 1))) bn)) := hD
    refine W.eq (g2 := F0 mm 91 ls [.int (bz b9_88)]) rfl ?_
    exact yr_z (ws := wR G h dg n q9_88 fk fp t np no (k + 2) c (kpF (bmp f k (bn bt)) k (kwF t (rn blN t n p) (rn leN t n (rn blN t n p)))) o (cond b9_88 (bt + 1) bt) (cond b9_88 (upd bk (bt + 1) (nI (kwF t (rn blN t n p) (rn leN t n (rn blN t n p))))) bk) (cond b9_88 (upd bn (bt + 1) (nI ((k + 2) - 1))) bn)) hx hb hrt (bz_nar _) hlocks (⟨_, _, _, _, _, _, _, by rw [it_c (by decide), hs_73]; exact kb_r hs_88 hc_83, rfl, rfl⟩) rfl hK hP hD hS d_R_opensItem_91
  · skip
    have hlim : bt ≤ 53 := hlim
    refine lv_tableOut (tgt := 155) hx hb d_R_opensItem_27 (by decide) (by decide) ?_
    refine lv_aload_n hx hb d_R_opensItem_155 rfl (lv_at hl 1 rfl) ?_
    refine y_call (y_runV (As := []) (rest := []) hx hb hml hown (c_R_readPoint hlt G h dg n (rn blN t n p) fk fp t np no k c (bmp f k (bn bt)) o bt bk bn  (by omega) (by omega) (ht) (by omega) (by omega) (by omega) (by omega) (by omega)) (gV (n := 0) hg tk_476 tk_478 (gt_s 16 (by decide +kernel) (by decide +kernel)) tk_4 tk_479 (by decide +kernel) ⟨Nat.le_of_ble_eq_true rfl, Nat.le_of_ble_eq_true rfl⟩) (va_recv hK hP (ci := 1) (q0 := 0) rfl rfl) (y_pre hE hK hP hD hS hA [0, 1, 2, 3, 4, 5, 6, 7] rfl rfl) rfl rfl hl.1 rfl (lv_room (Nat.le_of_ble_eq_true rfl)) d_R_opensItem_156 ⟨Nat.le_of_ble_eq_true rfl, Nat.le_of_ble_eq_true rfl⟩) hP hD hS hA [0, 1, 2, 3, 4, 5, 6, 7] rfl (fun E9 w9 qx cx H locs hp hlw hP hD hS hq1 hq2 hq3 => ?_) (fun v9 w9 H locs hp hlw hP hD hS => ?_)
    · skip
      obtain ⟨a_156, b_156, hs_156, rfl, q_156, k2_156, f2_156, c2_156, o2_156, rfl⟩ := hp
      have hP : va_P (gD G) vwC (wR G h dg n q_156 a_156 b_156 t np no k2_156 c2_156 f2_156 o2_156 bt bk bn) H := hP
      have hD : va_D A (wR G h dg n q_156 a_156 b_156 t np no k2_156 c2_156 f2_156 o2_156 bt bk bn) := hD
      exact y_out (ws := wR G h dg n q_156 a_156 b_156 t np no k2_156 c2_156 f2_156 o2_156 bt bk bn) hxt hlocks hq1 hq2 hq3 (⟨_, _, by rw [it_d (by decide), hs_156], rfl, _, _, _, _, _, rfl⟩) rfl hK hP hD hS
    obtain ⟨q9_156, o9_156, hs_156, rfl, rfl⟩ := hp
    have hP : va_P (gD G) vwC (wR G h dg n q9_156 fk fp t np no k (c + 1) (bmp f k (bn bt)) o9_156 bt bk bn) H := hP
    have hD : va_D A (wR G h dg n q9_156 fk fp t np no k (c + 1) (bmp f k (bn bt)) o9_156 bt bk bn) := hD
    refine W.eq (g2 := F0 mm 159 ls []) rfl ?_
    refine lv_iconst (v := nI 0) hx hb d_R_opensItem_159 (by decide) ?_
    exact yr_z (ws := wR G h dg n q9_156 fk fp t np no k (c + 1) (bmp f k (bn bt)) o9_156 bt bk bn) hx hb hrt (rfl) hlocks (⟨false, _, _, _, _, _, _, by rw [it_d (by decide), hs_156], rfl, rfl⟩) rfl hK hP hD hS d_R_opensItem_160
set_option maxHeartbeats 4000000 in
set_option maxRecDepth 100000 in
theorem c_R_goesOn {l : Launch} (hlt : l.stackTraces = false) (G : gl) (h : Nat → Nat) (dg : Nat) (n : Nat) (p : Nat) (fk : Nat) (fp : Nat) (t : Nat → Nat) (np : Nat) (no : Nat) (k : Nat) (c : Nat) (f : Nat → Int32) (o : Nat → Int32) (bt : Nat) (bk : Nat → Int32) (bn : Nat → Int32)  (hn : n ≤ 65536) (hp : p ≤ n) (ht : ∀ i, t i < 256) (hbt : bt ≤ 53) : YC l G y_R_goesOn k_R_goesOn 2 (Option.some FieldType.boolean) 9 155 [.ref (h 0)] (wR G h dg n p fk fp t np no k c f o bt bk bn) (fun v w => ∃ b9 q9 b8, goS t n bk bt p = .inr (b9, q9, b8) ∧ v = some (.int (bz b9)) ∧ w = wR G h dg n q9 fk fp t np no k c f o b8 bk bn) (fun E w => ∃ a b, goS t n bk bt p = .inl (a, b) ∧ E = "java/lang/IllegalArgumentException" ∧ ∃ q b8, w = wR G h dg n q a b t np no k c f o b8 bk bn) := by
  refine yc_of (by decide) ?_
  intro pg ev sx mm bl mt cd A C0 hP hD
  obtain ⟨hx, hb, hrt, hml, hown, hg, hlocks, hxt, hE, hK, hA, hmn⟩ := C0
  have hS : va_S A sx.heap sx.heap [] := va_S.rf
  have hl := lv_entry ([.ref (h 0)]) (n := 2) (Nat.le_of_ble_eq_true rfl)
  rw [lg_entry_eq]
  generalize (lg_sl ([.ref (h 0)]) ++ List.replicate (2 - (lg_sl ([.ref (h 0)])).length) Slot.unset).toArray = ls at hl ⊢
  have hl : lv_has ls 2 [(0, .ref (h 0))] := hl
  obtain ⟨H, hH⟩ : ∃ H, H = sx.heap := ⟨_, rfl⟩
  rw [← hH] at hP
  have hS : va_S A sx.heap H [] := by rw [hH]; exact hS
  suffices h9 : W pg l ev (yR 9 155) sx mm _ bl mt cd H [] 0 0 (yMQ bl G A _ _ _ _ sx) (F0 mm 0 ls []) by rw [hH] at h9; exact h9
  obtain ⟨locs, hlo⟩ : ∃ locs : List Loc, locs = [] := ⟨_, rfl⟩
  rw [← hlo] at hS ⊢
  have J2 : ∀ (n9 : Nat) (i : Nat) (q : Nat) (u : Nat) (hm9 : u < n9) (hi : i + u ≤ bt) (hq : q ≤ n) (hg9 : goS t n bk bt p = goS t n bk u q) (H : Heap) (locs : List Loc) (ls : Array Slot), va_P (gD G) vwC (wR G h dg n q fk fp t np no k c f o u bk bn) H → va_D A (wR G h dg n q fk fp t np no k c f o u bk bn) → va_S A sx.heap H locs → lv_has ls 2 [(0, .ref (h 0)), (1, .int (nI i))] → W pg l ev (yR 9 155) sx mm ([.ref (h 0)] : List Value).toArray bl mt cd H locs 0 0 (yMQ bl G A (wR G h dg n p fk fp t np no k c f o bt bk bn).length (fun v w => ∃ b9 q9 b8, goS t n bk bt p = .inr (b9, q9, b8) ∧ v = some (.int (bz b9)) ∧ w = wR G h dg n q9 fk fp t np no k c f o b8 bk bn) (fun E w => ∃ a b, goS t n bk bt p = .inl (a, b) ∧ E = "java/lang/IllegalArgumentException" ∧ ∃ q b8, w = wR G h dg n q a b t np no k c f o b8 bk bn) ([.ref (h 0)] : List Value).toArray sx) (F0 mm 2 ls []) := by
    intro n9
    induction n9 with
    | zero => intro i q u hm9; exact absurd hm9 (Nat.not_lt_zero _)
    | succ n9 ih9 =>
      intro i q u hm9 hi hq hg9 H locs ls hP hD hS hl
      refine lv_iload_n hx hb d_R_goesOn_2 rfl (lv_at hl 1 rfl) ?_
      refine lv_bipush (v := nI 54) hx hb d_R_goesOn_3 (by decide) ?_
      refine yn_icmp_ge (a := i) (b := 54) (tgt := 73) hx hb d_R_goesOn_5 (by decide) (by omega) (by omega) (fun c5 => ?_) (fun c5 => ?_)
      · skip
        exact absurd c5 (by omega)
      · skip
        refine lv_aload_n hx hb d_R_goesOn_8 rfl (lv_at hl 0 rfl) ?_
        refine va_get (D := gD G) (ci := 1) (v := .ref (h 5)) (C := "WordShapes$Reader") (T := TR) (N := 8) hx hb hg iw_R hown hK hP 0 rfl rfl 3 (by decide) (hg _ tk_90) (fun _ h9 => h9) rfl d_R_goesOn_9 ?_
        refine va_getN (D := gD G) (ci := 0) (v := .int (nI u)) (C := "WordShapes$Brackets") (T := TB) (N := 3) hx hb hg iw_B hown hK hP 5 rfl rfl 2 (by decide) (va_Nw.use rfl (nw_77 hE.1)) (fun _ h9 => h9) rfl d_R_goesOn_12 ?_
        refine yn_if_le (a := u) (tgt := 73) hx hb d_R_goesOn_15 (by decide) (by omega) (fun c15 => ?_) (fun c15 => ?_)
        · skip
          refine lv_iconst (v := nI 0) hx hb d_R_goesOn_73 (by decide) ?_
          exact yr_z (ws := wR G h dg n q fk fp t np no k c f o u bk bn) hx hb hrt (rfl) hlocks (⟨false, _, _, hg9.trans (by rw [c15]; rfl), rfl, by rw [c15]⟩) rfl hK hP hD hS d_R_goesOn_74
        · skip
          obtain ⟨z, rfl⟩ : ∃ z, u = z + 1 := ⟨u - 1, by omega⟩
          have b1 := rn_ge (P := blN) (t := t) (n := n) (p := q) hq
          have b2 := rn_le (P := blN) (t := t) (n := n) (p := q) hq
          refine lv_aload_n hx hb d_R_goesOn_18 rfl (lv_at hl 0 rfl) ?_
          refine y_call (y_runV (As := []) (rest := []) hx hb hml hown (c_R_skipBlanks l G h dg n q fk fp t np no k c f o (z + 1) bk bn  (by omega) (by omega) (ht)) (gV (n := 0) hg tk_333 tk_335 (gt_s 4 (by decide +kernel) (by decide +kernel)) tk_4 tk_336 (by decide +kernel) ⟨Nat.le_of_ble_eq_true rfl, Nat.le_of_ble_eq_true rfl⟩) (va_recv hK hP (ci := 1) (q0 := 0) rfl rfl) (y_pre hE hK hP hD hS hA [0, 1, 2, 3, 4, 5, 6, 7] rfl rfl) rfl rfl hl.1 rfl (lv_room (Nat.le_of_ble_eq_true rfl)) d_R_goesOn_19 ⟨Nat.le_of_ble_eq_true rfl, Nat.le_of_ble_eq_true rfl⟩) hP hD hS hA [0, 1, 2, 3, 4, 5, 6, 7] rfl (fun _ _ _ _ _ _ hp => False.elim hp) (fun v9 w9 H locs hp hlw hP hD hS => ?_)
          obtain ⟨rfl, rfl⟩ := hp
          have hP : va_P (gD G) vwC (wR G h dg n (rn blN t n q) fk fp t np no k c f o (z + 1) bk bn) H := hP
          have hD : va_D A (wR G h dg n (rn blN t n q) fk fp t np no k c f o (z + 1) bk bn) := hD
          refine W.eq (g2 := F0 mm 22 ls []) rfl ?_
          refine lv_aload_n hx hb d_R_goesOn_22 rfl (lv_at hl 0 rfl) ?_
          refine y_call (y_runV (As := []) (rest := []) hx hb hml hown (c_R_here l G h dg n (rn blN t n q) fk fp t np no k c f o (z + 1) bk bn  (by omega) (by omega) (ht)) (gV (n := 0) hg tk_356 tk_358 (gt_s 6 (by decide +kernel) (by decide +kernel)) tk_4 tk_359 (by decide +kernel) ⟨Nat.le_of_ble_eq_true rfl, Nat.le_of_ble_eq_true rfl⟩) (va_recv hK hP (ci := 1) (q0 := 0) rfl rfl) (y_pre hE hK hP hD hS hA [0, 1, 2, 3, 4, 5, 6, 7] rfl rfl) rfl rfl hl.1 rfl (lv_room (Nat.le_of_ble_eq_true rfl)) d_R_goesOn_23 ⟨Nat.le_of_ble_eq_true rfl, Nat.le_of_ble_eq_true rfl⟩) hP hD hS hA [0, 1, 2, 3, 4, 5, 6, 7] rfl (fun _ _ _ _ _ _ hp => False.elim hp) (fun v9 w9 H locs hp hlw hP hD hS => ?_)
          obtain ⟨rfl, rfl⟩ := hp
          have hP : va_P (gD G) vwC (wR G h dg n (rn blN t n q) fk fp t np no k c f o (z + 1) bk bn) H := hP
          have hD : va_D A (wR G h dg n (rn blN t n q) fk fp t np no k c f o (z + 1) bk bn) := hD
          refine W.eq (g2 := F0 mm 26 ls [.int (toI (hr t n (rn blN t n q)))]) rfl ?_
          refine lv_bipush (v := nI 44) hx hb d_R_goesOn_26 (by decide) ?_
          refine yh_icmp_ne (a := hr t n (rn blN t n q)) (b := 44) (tgt := 54) hx hb d_R_goesOn_28 (by decide) (hr_le ht _ _) (by omega) (fun c28 => ?_) (fun c28 => ?_)
          · skip
            refine lv_aload_n hx hb d_R_goesOn_54 rfl (lv_at hl 0 rfl) ?_
            refine lv_bipush (v := nI 41) hx hb d_R_goesOn_55 (by decide) ?_
            refine y_call (y_runV (As := [.int (nI 41)]) (rest := []) hx hb hml hown (c_R_pass hlt G h dg n (rn blN t n q) fk fp t np no k c f o (z + 1) bk bn 41 (by omega) (by omega) (ht) (by omega)) (gV (n := 1) hg tk_468 tk_470 (gt_s 15 (by decide +kernel) (by decide +kernel)) tk_4 tk_471 (by decide +kernel) ⟨Nat.le_of_ble_eq_true rfl, Nat.le_of_ble_eq_true rfl⟩) (va_recv hK hP (ci := 1) (q0 := 0) rfl rfl) (y_pre hE hK hP hD hS hA [0, 1, 2, 3, 4, 5, 6, 7] rfl rfl) rfl rfl hl.1 rfl (lv_room (Nat.le_of_ble_eq_true rfl)) d_R_goesOn_57 ⟨Nat.le_of_ble_eq_true rfl, Nat.le_of_ble_eq_true rfl⟩) hP hD hS hA [0, 1, 2, 3, 4, 5, 6, 7] rfl (fun E9 w9 qx cx H locs hp hlw hP hD hS hq1 hq2 hq3 => ?_) (fun v9 w9 H locs hp hlw hP hD hS => ?_)
            · skip
              obtain ⟨hc_57, rfl, rfl⟩ := hp
              have hP : va_P (gD G) vwC (wR G h dg n (rn blN t n q) (uxp (hr t n (rn blN t n q))) (rn blN t n q) t np no k c f o (z + 1) bk bn) H := hP
              have hD : va_D A (wR G h dg n (rn blN t n q) (uxp (hr t n (rn blN t n q))) (rn blN t n q) t np no k c f o (z + 1) bk bn) := hD
              exact y_out (ws := wR G h dg n (rn blN t n q) (uxp (hr t n (rn blN t n q))) (rn blN t n q) t np no k c f o (z + 1) bk bn) hxt hlocks hq1 hq2 hq3 (⟨_, _, hg9.trans (by rw [go_s]; rw [if_neg (fun y => by first | exact c28 y.1 | exact y.2 c39), if_neg hc_57]), rfl, _, _, rfl⟩) rfl hK hP hD hS
            obtain ⟨hc_57, rfl, rfl⟩ := hp
            have hP : va_P (gD G) vwC (wR G h dg n ((rn blN t n q) + 1) fk fp t np no k c f o (z + 1) bk bn) H := hP
            have hD : va_D A (wR G h dg n ((rn blN t n q) + 1) fk fp t np no k c f o (z + 1) bk bn) := hD
            refine W.eq (g2 := F0 mm 60 ls []) rfl ?_
            have h41 := hr_lt hc_57 (by decide)
            refine lv_aload_n hx hb d_R_goesOn_60 rfl (lv_at hl 0 rfl) ?_
            refine va_get (D := gD G) (ci := 1) (v := .ref (h 5)) (C := "WordShapes$Reader") (T := TR) (N := 8) hx hb hg iw_R hown hK hP 0 rfl rfl 3 (by decide) (hg _ tk_90) (fun _ h9 => h9) rfl d_R_goesOn_61 ?_
            refine y_call (y_runV (As := []) (rest := []) hx hb hml hown (c_B_close l G (fun i => h (i + 5)) (z + 1) bk bn  (by omega) (by omega)) (gV (n := 0) hg tk_526 tk_527 tk_528 tk_5 tk_529 (by decide +kernel) ⟨Nat.le_of_ble_eq_true rfl, Nat.le_of_ble_eq_true rfl⟩) (va_recv hK hP (ci := 0) (q0 := 5) rfl rfl) (y_pre hE hK hP hD hS hA [5, 6, 7] rfl rfl) rfl rfl hl.1 rfl (lv_room (Nat.le_of_ble_eq_true rfl)) d_R_goesOn_64 ⟨Nat.le_of_ble_eq_true rfl, Nat.le_of_ble_eq_true rfl⟩) hP hD hS hA [5, 6, 7] rfl (fun _ _ _ _ _ _ hp => False.elim hp) (fun v9 w9 H locs hp hlw hP hD hS => ?_)
            obtain ⟨rfl, rfl⟩ := hp
            have hP : va_P (gD G) vwC (wR G h dg n ((rn blN t n q) + 1) fk fp t np no k c f o ((z + 1) - 1) bk bn) H := hP
            have hD : va_D A (wR G h dg n ((rn blN t n q) + 1) fk fp t np no k c f o ((z + 1) - 1) bk bn) := hD
            refine W.eq (g2 := F0 mm 67 ls []) rfl ?_
            have hP : va_P (gD G) vwC (wR G h dg n ((rn blN t n q) + 1) fk fp t np no k c f o z bk bn) H := hP
            have hD : va_D A (wR G h dg n ((rn blN t n q) + 1) fk fp t np no k c f o z bk bn) := hD
            refine lv_iinc (v := nI (i + 1)) (lv' := [(1, .int (nI (i + 1))), (0, .ref (h 0))]) hx hb d_R_goesOn_67 hl (k := 1) rfl (y_inc _) (by decide) rfl (fun ls hl => ?_)
            refine lv_goto (tgt := 2) hx hb d_R_goesOn_70 (by decide) ?_
            exact ih9 (i + 1) ((rn blN t n q) + 1) z (by omega) (by omega) (by omega) (hg9.trans (by rw [go_s]; rw [if_neg (fun y => by first | exact c28 y.1 | exact y.2 c39), if_pos hc_57])) _ _ _ hP hD hS (lv_sub hl [1, 0] (rfl))
          · skip
            refine lv_aload_n hx hb d_R_goesOn_31 rfl (lv_at hl 0 rfl) ?_
            refine va_get (D := gD G) (ci := 1) (v := .ref (h 5)) (C := "WordShapes$Reader") (T := TR) (N := 8) hx hb hg iw_R hown hK hP 0 rfl rfl 3 (by decide) (hg _ tk_90) (fun _ h9 => h9) rfl d_R_goesOn_32 ?_
            refine y_call (y_runV (As := []) (rest := []) hx hb hml hown (c_B_kind l G (fun i => h (i + 5)) (z + 1) bk bn  (by omega)) (gV (n := 0) hg tk_348 tk_349 tk_350 tk_5 tk_351 (by decide +kernel) ⟨Nat.le_of_ble_eq_true rfl, Nat.le_of_ble_eq_true rfl⟩) (va_recv hK hP (ci := 0) (q0 := 5) rfl rfl) (y_pre hE hK hP hD hS hA [5, 6, 7] rfl rfl) rfl rfl hl.1 rfl (lv_room (Nat.le_of_ble_eq_true rfl)) d_R_goesOn_35 ⟨Nat.le_of_ble_eq_true rfl, Nat.le_of_ble_eq_true rfl⟩) hP hD hS hA [5, 6, 7] rfl (fun _ _ _ _ _ _ hp => False.elim hp) (fun v9 w9 H locs hp hlw hP hD hS => ?_)
            obtain ⟨rfl, rfl⟩ := hp
            have hP : va_P (gD G) vwC (wR G h dg n (rn blN t n q) fk fp t np no k c f o (z + 1) bk bn) H := hP
            have hD : va_D A (wR G h dg n (rn blN t n q) fk fp t np no k c f o (z + 1) bk bn) := hD
            refine W.eq (g2 := F0 mm 38 ls [.int (bk (z + 1))]) rfl ?_
            refine lv_iconst (v := nI 1) hx hb d_R_goesOn_38 (by decide) ?_
            refine lv_icmp_eq (tgt := 54) hx hb d_R_goesOn_39 (by decide) (fun c39 => ?_) (fun c39 => ?_)
            · skip
              refine lv_aload_n hx hb d_R_goesOn_54 rfl (lv_at hl 0 rfl) ?_
              refine lv_bipush (v := nI 41) hx hb d_R_goesOn_55 (by decide) ?_
              refine y_call (y_runV (As := [.int (nI 41)]) (rest := []) hx hb hml hown (c_R_pass hlt G h dg n (rn blN t n q) fk fp t np no k c f o (z + 1) bk bn 41 (by omega) (by omega) (ht) (by omega)) (gV (n := 1) hg tk_468 tk_470 (gt_s 15 (by decide +kernel) (by decide +kernel)) tk_4 tk_471 (by decide +kernel) ⟨Nat.le_of_ble_eq_true rfl, Nat.le_of_ble_eq_true rfl⟩) (va_recv hK hP (ci := 1) (q0 := 0) rfl rfl) (y_pre hE hK hP hD hS hA [0, 1, 2, 3, 4, 5, 6, 7] rfl rfl) rfl rfl hl.1 rfl (lv_room (Nat.le_of_ble_eq_true rfl)) d_R_goesOn_57 ⟨Nat.le_of_ble_eq_true rfl, Nat.le_of_ble_eq_true rfl⟩) hP hD hS hA [0, 1, 2, 3, 4, 5, 6, 7] rfl (fun E9 w9 qx cx H locs hp hlw hP hD hS hq1 hq2 hq3 => ?_) (fun v9 w9 H locs hp hlw hP hD hS => ?_)
              · skip
                obtain ⟨hc_57, rfl, rfl⟩ := hp
                have hP : va_P (gD G) vwC (wR G h dg n (rn blN t n q) (uxp (hr t n (rn blN t n q))) (rn blN t n q) t np no k c f o (z + 1) bk bn) H := hP
                have hD : va_D A (wR G h dg n (rn blN t n q) (uxp (hr t n (rn blN t n q))) (rn blN t n q) t np no k c f o (z + 1) bk bn) := hD
                exact y_out (ws := wR G h dg n (rn blN t n q) (uxp (hr t n (rn blN t n q))) (rn blN t n q) t np no k c f o (z + 1) bk bn) hxt hlocks hq1 hq2 hq3 (⟨_, _, hg9.trans (by rw [go_s]; rw [if_neg (fun y => by first | exact c28 y.1 | exact y.2 c39), if_neg hc_57]), rfl, _, _, rfl⟩) rfl hK hP hD hS
              obtain ⟨hc_57, rfl, rfl⟩ := hp
              have hP : va_P (gD G) vwC (wR G h dg n ((rn blN t n q) + 1) fk fp t np no k c f o (z + 1) bk bn) H := hP
              have hD : va_D A (wR G h dg n ((rn blN t n q) + 1) fk fp t np no k c f o (z + 1) bk bn) := hD
              refine W.eq (g2 := F0 mm 60 ls []) rfl ?_
              have h41 := hr_lt hc_57 (by decide)
              refine lv_aload_n hx hb d_R_goesOn_60 rfl (lv_at hl 0 rfl) ?_
              refine va_get (D := gD G) (ci := 1) (v := .ref (h 5)) (C := "WordShapes$Reader") (T := TR) (N := 8) hx hb hg iw_R hown hK hP 0 rfl rfl 3 (by decide) (hg _ tk_90) (fun _ h9 => h9) rfl d_R_goesOn_61 ?_
              refine y_call (y_runV (As := []) (rest := []) hx hb hml hown (c_B_close l G (fun i => h (i + 5)) (z + 1) bk bn  (by omega) (by omega)) (gV (n := 0) hg tk_526 tk_527 tk_528 tk_5 tk_529 (by decide +kernel) ⟨Nat.le_of_ble_eq_true rfl, Nat.le_of_ble_eq_true rfl⟩) (va_recv hK hP (ci := 0) (q0 := 5) rfl rfl) (y_pre hE hK hP hD hS hA [5, 6, 7] rfl rfl) rfl rfl hl.1 rfl (lv_room (Nat.le_of_ble_eq_true rfl)) d_R_goesOn_64 ⟨Nat.le_of_ble_eq_true rfl, Nat.le_of_ble_eq_true rfl⟩) hP hD hS hA [5, 6, 7] rfl (fun _ _ _ _ _ _ hp => False.elim hp) (fun v9 w9 H locs hp hlw hP hD hS => ?_)
              obtain ⟨rfl, rfl⟩ := hp
              have hP : va_P (gD G) vwC (wR G h dg n ((rn blN t n q) + 1) fk fp t np no k c f o ((z + 1) - 1) bk bn) H := hP
              have hD : va_D A (wR G h dg n ((rn blN t n q) + 1) fk fp t np no k c f o ((z + 1) - 1) bk bn) := hD
              refine W.eq (g2 := F0 mm 67 ls []) rfl ?_
              have hP : va_P (gD G) vwC (wR G h dg n ((rn blN t n q) + 1) fk fp t np no k c f o z bk bn) H := hP
              have hD : va_D A (wR G h dg n ((rn blN t n q) + 1) fk fp t np no k c f o z bk bn) := hD
              refine lv_iinc (v := nI (i + 1)) (lv' := [(1, .int (nI (i + 1))), (0, .ref (h 0))]) hx hb d_R_goesOn_67 hl (k := 1) rfl (y_inc _) (by decide) rfl (fun ls hl => ?_)
              refine lv_goto (tgt := 2) hx hb d_R_goesOn_70 (by decide) ?_
              exact ih9 (i + 1) ((rn blN t n q) + 1) z (by omega) (by omega) (by omega) (hg9.trans (by rw [go_s]; rw [if_neg (fun y => by first | exact c28 y.1 | exact y.2 c39), if_pos hc_57])) _ _ _ hP hD hS (lv_sub hl [1, 0] (rfl))
            · skip
              have h44 := hr_lt c28 (by decide)
              refine lv_aload_n hx hb d_R_goesOn_42 rfl (lv_at hl 0 rfl) ?_
              refine lv_dup hx hb d_R_goesOn_43 rfl ?_
              refine va_get (D := gD G) (ci := 1) (v := .int (nI (rn blN t n q))) (C := "WordShapes$Reader") (T := TR) (N := 8) hx hb hg iw_R hown hK hP 0 rfl rfl 5 (by decide) (hg _ tk_92) (fun _ h9 => h9) rfl d_R_goesOn_44 ?_
              refine lv_iconst (v := nI 1) hx hb d_R_goesOn_47 (by decide) ?_
              refine lv_iadd hx hb d_R_goesOn_48 ?_
              refine y_eqi (nI_add _ _) ?_
              refine va_put (D := gD G) (ci := 1) (v := .int (nI (rn blN t n q + 1))) (ty := .int) (C := "WordShapes$Reader") (T := TR) (N := 8) hx hb hg iw_R ft_R fo_R nm_R hown hK hP hD hS 0 rfl rfl 5 (by decide) (hg _ tk_92) (fun _ h9 => h9) rfl (by decide +kernel) (rfl) (rfl) (Nat.le_of_ble_eq_true rfl) d_R_goesOn_49 (fun H locs hP hD hS => ?_)
              have hP : va_P (gD G) vwC (wR G h dg n (rn blN t n q + 1) fk fp t np no k c f o (z + 1) bk bn) H := hP
              have hD : va_D A (wR G h dg n (rn blN t n q + 1) fk fp t np no k c f o (z + 1) bk bn) := hD
              refine lv_iconst (v := nI 1) hx hb d_R_goesOn_52 (by decide) ?_
              exact yr_z (ws := wR G h dg n (rn blN t n q + 1) fk fp t np no k c f o (z + 1) bk bn) hx hb hrt (rfl) hlocks (⟨true, _, _, hg9.trans (by rw [go_s]; rw [if_pos ⟨c28, c39⟩]), rfl, rfl⟩) rfl hK hP hD hS d_R_goesOn_53
  refine lv_iconst (v := nI 0) hx hb d_R_goesOn_0 (by decide) ?_
  refine lv_istore_n (lv' := [(1, .int (nI 0)), (0, .ref (h 0))]) hx hb d_R_goesOn_1 rfl hl (by decide) rfl (fun ls hl => ?_)
  exact J2 _ 0 p bt (Nat.lt_succ_self _) (by omega) (by omega) (rfl) _ _ _ hP hD hS (lv_sub hl [1, 0] (rfl))
