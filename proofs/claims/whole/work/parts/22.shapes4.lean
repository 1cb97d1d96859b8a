set_option maxHeartbeats 4000000 in
set_option maxRecDepth 100000 in
theorem c_W_read {l : Launch} (hlt : l.stackTraces = false) (G : gl) (h : Nat → Nat) (np : Nat) (no : Nat) (dg : Nat) (tl : Nat) (sk : Nat → Nat) (sc : Nat → Nat) (sf : Nat → Nat → Int32) (so : Nat → Nat → Int32) (n : Nat) (p : Nat) (fk : Nat) (fp : Nat) (t : Nat → Nat) (k : Nat) (c : Nat) (f : Nat → Int32) (o : Nat → Int32) (bt : Nat) (bk : Nat → Int32) (bn : Nat → Int32) (ln : Nat) (ks : Bool) (la : Nat) (nx : Nat) (py : Nat) (fi : Bool) (rb : Nat → Nat) (de : Nat → Int32) (wt : Nat) (wk : Nat → Int32) (wn : Nat → Int32) (s : Int32) (htl : tl ≤ 65536) (ht : ∀ i, t i < 256) (hnp : np ≤ 4096) (hnp2 : 2 ≤ np) (hno : no ≤ 8192) (he : 2 ∣ no) : YC l G y_W_read k_W_read 4 (Option.some FieldType.int) 12 232 [.ref (h 0), .int s] (wW G h np no dg tl sk sc sf so n p fk fp t k c f o bt bk bn ln ks la nx py fi rb de wt wk wn) (fun v w => ∃ j q9 k9 f9 c9 o9 u9 b9 d9, j < 4 ∧ s = nI j ∧ rdT t tl dg np no f o bk bn = .inr (k9, f9, c9, o9) ∧ k9 ≤ np ∧ 2 * c9 ≤ no ∧ v = some (.int (if 0 < k9 then tkF (sf j) f9 k9 0 else 0)) ∧ w = wW G h np no dg 0 (va_up (va_up sk j 0) j k9) (va_up (va_up sc j 0) j c9) (va_up sf j (tkF (sf j) f9 k9)) (va_up so j (tkF (so j) o9 (2 * c9))) tl q9 0 0 t k9 c9 f9 o9 u9 b9 d9 ln ks la nx py fi rb de wt wk wn) (fun E w => ((s < 0 ∨ nI 4 ≤ s) ∧ E = "java/lang/IndexOutOfBoundsException" ∧ w = wW G h np no dg 0 sk sc sf so n p fk fp t k c f o bt bk bn ln ks la nx py fi rb de wt wk wn) ∨ ∃ j a b q k2 f2 c2 o2 u2 b2 d2, j < 4 ∧ s = nI j ∧ rdT t tl dg np no f o bk bn = .inl (a, b) ∧ E = "java/lang/IllegalArgumentException" ∧ w = wW G h np no dg 0 (va_up sk j 0) (va_up sc j 0) sf so tl q a b t k2 c2 f2 o2 u2 b2 d2 ln ks la nx py fi rb de wt wk wn) := by
  refine yc_of (by decide) ?_
  intro pg ev sx mm bl mt cd A C0 hP hD
  obtain ⟨hx, hb, hrt, hml, hown, hg, hlocks, hxt, hE, hK, hA, hmn⟩ := C0
  have hS : va_S A sx.heap sx.heap [] := va_S.rf
  have hl := lv_entry ([.ref (h 0), .int s]) (n := 4) (Nat.le_of_ble_eq_true rfl)
  rw [lg_entry_eq]
  generalize (lg_sl ([.ref (h 0), .int s]) ++ List.replicate (4 - (lg_sl ([.ref (h 0), .int s])).length) Slot.unset).toArray = ls at hl ⊢
  have hl : lv_has ls 4 [(0, .ref (h 0)), (1, .int s)] := hl
  obtain ⟨H, hH⟩ : ∃ H, H = sx.heap := ⟨_, rfl⟩
  rw [← hH] at hP
  have hS : va_S A sx.heap H [] := by rw [hH]; exact hS
  suffices h9 : W pg l ev (yR 12 232) sx mm _ bl mt cd H [] 0 0 (yMQ bl G A _ _ _ _ sx) (F0 mm 0 ls []) by rw [hH] at h9; exact h9
  obtain ⟨locs, hlo⟩ : ∃ locs : List Loc, locs = [] := ⟨_, rfl⟩
  rw [← hlo] at hS ⊢
  refine lv_aload_n hx hb d_W_read_0 rfl (lv_at hl 0 rfl) ?_
  refine va_get (D := gD G) (ci := 4) (v := .int (nI tl)) (C := "WordShapes") (T := TW) (N := 5) hx hb hg iw_W hown hK hP 0 rfl rfl 4 (by decide) (hg _ tk_159) (fun _ h9 => h9) rfl d_W_read_1 ?_
  refine lv_istore_n (lv' := [(2, .int (nI tl)), (0, .ref (h 0)), (1, .int s)]) hx hb d_W_read_4 rfl hl (by decide) rfl (fun ls hl => ?_)
  refine lv_aload_n hx hb d_W_read_5 rfl (lv_at hl 1 rfl) ?_
  refine lv_iconst (v := nI 0) hx hb d_W_read_6 (by decide) ?_
  refine va_put (D := gD G) (ci := 4) (v := .int (nI 0)) (ty := .int) (C := "WordShapes") (T := TW) (N := 5) hx hb hg iw_W ft_W fo_W nm_W hown hK hP hD hS 0 rfl rfl 4 (by decide) (hg _ tk_159) (fun _ h9 => h9) rfl (by decide +kernel) (rfl) (rfl) (Nat.le_of_ble_eq_true rfl) d_W_read_7 (fun H locs hP hD hS => ?_)
  have hP : va_P (gD G) vwC (wW G h np no dg 0 sk sc sf so n p fk fp t k c f o bt bk bn ln ks la nx py fi rb de wt wk wn) H := hP
  have hD : va_D A (wW G h np no dg 0 sk sc sf so n p fk fp t k c f o bt bk bn ln ks la nx py fi rb de wt wk wn) := hD
  refine lv_aload_n hx hb d_W_read_10 rfl (lv_at hl 1 rfl) ?_
  refine lv_iload_n hx hb d_W_read_11 rfl (lv_at hl 2 rfl) ?_
  refine y_callW (y_runV (As := [.int s]) (rest := []) hx hb hml hown (c_W_shapeIn hlt G h np no dg 0 sk sc sf so n p fk fp t k c f o bt bk bn ln ks la nx py fi rb de wt wk wn s ) (gV (n := 1) hg tk_295 tk_297 (gt_s 2 (by decide +kernel) (by decide +kernel)) tk_1 tk_298 (by decide +kernel) ⟨Nat.le_of_ble_eq_true rfl, Nat.le_of_ble_eq_true rfl⟩) (va_recv hK hP (ci := 4) (q0 := 0) rfl rfl) (y_preW hE hK hP hD hS hA) rfl rfl hl.1 rfl (lv_room (Nat.le_of_ble_eq_true rfl)) d_W_read_12 ⟨Nat.le_of_ble_eq_true rfl, Nat.le_of_ble_eq_true rfl⟩) hD hS hA (fun E9 w9 qx cx H locs hp hlw hP hD hS hq1 hq2 hq3 => ?_) (fun v9 w9 H locs hp hlw hP hD hS => ?_)
  · skip
    obtain ⟨hc_12, rfl, rfl⟩ := hp
    have hP : va_P (gD G) vwC (wW G h np no dg 0 sk sc sf so n p fk fp t k c f o bt bk bn ln ks la nx py fi rb de wt wk wn) H := hP
    have hD : va_D A (wW G h np no dg 0 sk sc sf so n p fk fp t k c f o bt bk bn ln ks la nx py fi rb de wt wk wn) := hD
    exact y_out (ws := wW G h np no dg 0 sk sc sf so n p fk fp t k c f o bt bk bn ln ks la nx py fi rb de wt wk wn) hxt hlocks hq1 hq2 hq3 (Or.inl ⟨hc_12, rfl, rfl⟩) rfl hK hP hD hS
  obtain ⟨j_12, hj_12, rfl, rfl, rfl⟩ := hp
  have hP : va_P (gD G) vwC (wW G h np no dg 0 sk sc sf so n p fk fp t k c f o bt bk bn ln ks la nx py fi rb de wt wk wn) H := hP
  have hD : va_D A (wW G h np no dg 0 sk sc sf so n p fk fp t k c f o bt bk bn ln ks la nx py fi rb de wt wk wn) := hD
  refine W.eq (g2 := F0 mm 15 ls [.ref (h (2 + 3 * j_12))]) rfl ?_
  rcases (show j_12 = 0 ∨ j_12 = 1 ∨ j_12 = 2 ∨ j_12 = 3 by omega) with rfl | rfl | rfl | rfl
  · skip
    refine lv_astore_n (lv' := [(3, .ref (h 2)), (2, .int (nI tl)), (0, .ref (h 0)), (1, .int (nI 0))]) hx hb d_W_read_15 rfl hl (by decide) rfl (fun ls hl => ?_)
    refine lv_aload_n hx hb d_W_read_16 rfl (lv_at hl 0 rfl) ?_
    refine y_call (y_runV (As := []) (rest := []) hx hb hml hown (c_S_clear l G (fun i => h (i + 2)) np no (sk 0) (sc 0) (sf 0) (so 0)  ) (gV (n := 0) hg tk_315 tk_316 tk_317 tk_3 tk_318 (by decide +kernel) ⟨Nat.le_of_ble_eq_true rfl, Nat.le_of_ble_eq_true rfl⟩) (va_recv hK hP (ci := 2) (q0 := 2) rfl rfl) (y_pre hE hK hP hD hS hA [2, 3, 4] rfl rfl) rfl rfl hl.1 rfl (lv_room (Nat.le_of_ble_eq_true rfl)) d_W_read_17 ⟨Nat.le_of_ble_eq_true rfl, Nat.le_of_ble_eq_true rfl⟩) hP hD hS hA [2, 3, 4] rfl (fun _ _ _ _ _ _ hp => False.elim hp) (fun v9 w9 H locs hp hlw hP hD hS => ?_)
    obtain ⟨rfl, rfl⟩ := hp
    have hP : va_P (gD G) vwC (wW G h np no dg 0 (va_up sk 0 0) (va_up sc 0 0) sf so n p fk fp t k c f o bt bk bn ln ks la nx py fi rb de wt wk wn) H := hP
    have hD : va_D A (wW G h np no dg 0 (va_up sk 0 0) (va_up sc 0 0) sf so n p fk fp t k c f o bt bk bn ln ks la nx py fi rb de wt wk wn) := hD
    refine W.eq (g2 := F0 mm 20 ls []) rfl ?_
    refine lv_aload_n hx hb d_W_read_20 rfl (lv_at hl 2 rfl) ?_
    refine va_get (D := gD G) (ci := 4) (v := .ref (h 14)) (C := "WordShapes") (T := TW) (N := 5) hx hb hg iw_W hown hK hP 0 rfl rfl 2 (by decide) (hg _ tk_157) (fun _ h9 => h9) rfl d_W_read_21 ?_
    refine lv_iload_n hx hb d_W_read_24 rfl (lv_at hl 1 rfl) ?_
    refine y_call (y_runV (As := [.int (nI tl)]) (rest := []) hx hb hml hown (c_R_readText hlt G (fun i => h (i + 14)) dg n p fk fp t np no k c f o bt bk bn tl (by omega) (ht) (by omega) (by omega) (by omega) (by omega)) (gV (n := 1) hg tk_319 tk_320 tk_321 tk_4 tk_322 (by decide +kernel) ⟨Nat.le_of_ble_eq_true rfl, Nat.le_of_ble_eq_true rfl⟩) (va_recv hK hP (ci := 1) (q0 := 14) rfl rfl) (y_pre hE hK hP hD hS hA [14, 15, 16, 17, 18, 19, 20, 21] rfl rfl) rfl rfl hl.1 rfl (lv_room (Nat.le_of_ble_eq_true rfl)) d_W_read_25 ⟨Nat.le_of_ble_eq_true rfl, Nat.le_of_ble_eq_true rfl⟩) hP hD hS hA [14, 15, 16, 17, 18, 19, 20, 21] rfl (fun E9 w9 qx cx H locs hp hlw hP hD hS hq1 hq2 hq3 => ?_) (fun v9 w9 H locs hp hlw hP hD hS => ?_)
    · skip
      obtain ⟨a_25, b_25, hs_25, rfl, q_25, k2_25, f2_25, c2_25, o2_25, u2_25, b2_25, d2_25, rfl⟩ := hp
      have hP : va_P (gD G) vwC (wW G h np no dg 0 (va_up sk 0 0) (va_up sc 0 0) sf so tl q_25 a_25 b_25 t k2_25 c2_25 f2_25 o2_25 u2_25 b2_25 d2_25 ln ks la nx py fi rb de wt wk wn) H := hP
      have hD : va_D A (wW G h np no dg 0 (va_up sk 0 0) (va_up sc 0 0) sf so tl q_25 a_25 b_25 t k2_25 c2_25 f2_25 o2_25 u2_25 b2_25 d2_25 ln ks la nx py fi rb de wt wk wn) := hD
      exact y_out (ws := wW G h np no dg 0 (va_up sk 0 0) (va_up sc 0 0) sf so tl q_25 a_25 b_25 t k2_25 c2_25 f2_25 o2_25 u2_25 b2_25 d2_25 ln ks la nx py fi rb de wt wk wn) hxt hlocks hq1 hq2 hq3 (Or.inr ⟨_, _, _, _, _, _, _, _, _, _, _, by decide, rfl, hs_25, rfl, rfl⟩) rfl hK hP hD hS
    obtain ⟨q9_25, k9_25, f9_25, c9_25, o9_25, u9_25, b9_25, d9_25, hs_25, hs1_25, hs2_25, rfl, rfl⟩ := hp
    have hP : va_P (gD G) vwC (wW G h np no dg 0 (va_up sk 0 0) (va_up sc 0 0) sf so tl q9_25 0 0 t k9_25 c9_25 f9_25 o9_25 u9_25 b9_25 d9_25 ln ks la nx py fi rb de wt wk wn) H := hP
    have hD : va_D A (wW G h np no dg 0 (va_up sk 0 0) (va_up sc 0 0) sf so tl q9_25 0 0 t k9_25 c9_25 f9_25 o9_25 u9_25 b9_25 d9_25 ln ks la nx py fi rb de wt wk wn) := hD
    refine W.eq (g2 := F0 mm 28 ls []) rfl ?_
    refine lv_aload_n hx hb d_W_read_28 rfl (lv_at hl 0 rfl) ?_
    refine lv_aload_n hx hb d_W_read_29 rfl (lv_at hl 2 rfl) ?_
    refine va_get (D := gD G) (ci := 4) (v := .ref (h 14)) (C := "WordShapes") (T := TW) (N := 5) hx hb hg iw_W hown hK hP 0 rfl rfl 2 (by decide) (hg _ tk_157) (fun _ h9 => h9) rfl d_W_read_30 ?_
    refine va_getN (D := gD G) (ci := 1) (v := .ref (h 16)) (C := "WordShapes$Reader") (T := TR) (N := 8) hx hb hg iw_R hown hK hP 14 rfl rfl 2 (by decide) (va_Nw.use rfl (nw_89 hE.1)) (fun _ h9 => h9) rfl d_W_read_33 ?_
    refine y_call (y_runV (As := [.ref (h 16)]) (rest := []) hx hb hml hown (c_S_takeFrom l G (fun i => h (i + 2)) (fun i => h (i + 16)) np no ((va_up sk 0 0) 0) ((va_up sc 0 0) 0) (sf 0) (so 0) k9_25 c9_25 f9_25 o9_25  (by omega) (by omega) (by omega) (by omega)) (gV (n := 1) hg tk_530 tk_531 tk_532 tk_3 tk_533 (by decide +kernel) ⟨Nat.le_of_ble_eq_true rfl, Nat.le_of_ble_eq_true rfl⟩) (va_recv hK hP (ci := 2) (q0 := 2) rfl rfl) (y_pre hE hK hP hD hS hA [2, 3, 4, 16, 17, 18] rfl rfl) rfl rfl hl.1 rfl (lv_room (Nat.le_of_ble_eq_true rfl)) d_W_read_36 ⟨Nat.le_of_ble_eq_true rfl, Nat.le_of_ble_eq_true rfl⟩) hP hD hS hA [2, 3, 4, 16, 17, 18] rfl (fun _ _ _ _ _ _ hp => False.elim hp) (fun v9 w9 H locs hp hlw hP hD hS => ?_)
    obtain ⟨rfl, rfl⟩ := hp
    have hP : va_P (gD G) vwC (wW G h np no dg 0 (va_up (va_up sk 0 0) 0 k9_25) (va_up (va_up sc 0 0) 0 c9_25) (va_up sf 0 (tkF (sf 0) f9_25 k9_25)) (va_up so 0 (tkF (so 0) o9_25 (2 * c9_25))) tl q9_25 0 0 t k9_25 c9_25 f9_25 o9_25 u9_25 b9_25 d9_25 ln ks la nx py fi rb de wt wk wn) H := hP
    have hD : va_D A (wW G h np no dg 0 (va_up (va_up sk 0 0) 0 k9_25) (va_up (va_up sc 0 0) 0 c9_25) (va_up sf 0 (tkF (sf 0) f9_25 k9_25)) (va_up so 0 (tkF (so 0) o9_25 (2 * c9_25))) tl q9_25 0 0 t k9_25 c9_25 f9_25 o9_25 u9_25 b9_25 d9_25 ln ks la nx py fi rb de wt wk wn) := hD
    refine W.eq (g2 := F0 mm 39 ls []) rfl ?_
    refine lv_aload_n hx hb d_W_read_39 rfl (lv_at hl 0 rfl) ?_
    refine lv_iconst (v := nI 0) hx hb d_W_read_40 (by decide) ?_
    refine y_call (y_runV (As := [.int (nI 0)]) (rest := []) hx hb hml hown (c_S_numberAt l G (fun i => h (i + 2)) np no ((va_up (va_up sk 0 0) 0 k9_25) 0) ((va_up (va_up sc 0 0) 0 c9_25) 0) ((va_up sf 0 (tkF (sf 0) f9_25 k9_25)) 0) ((va_up so 0 (tkF (so 0) o9_25 (2 * c9_25))) 0) 0 (by omega) (hs1_25) (by omega)) (gV (n := 1) hg tk_537 tk_538 tk_539 tk_3 tk_540 (by decide +kernel) ⟨Nat.le_of_ble_eq_true rfl, Nat.le_of_ble_eq_true rfl⟩) (va_recv hK hP (ci := 2) (q0 := 2) rfl rfl) (y_pre hE hK hP hD hS hA [2, 3, 4] rfl rfl) rfl rfl hl.1 rfl (lv_room (Nat.le_of_ble_eq_true rfl)) d_W_read_41 ⟨Nat.le_of_ble_eq_true rfl, Nat.le_of_ble_eq_true rfl⟩) hP hD hS hA [2, 3, 4] rfl (fun _ _ _ _ _ _ hp => False.elim hp) (fun v9 w9 H locs hp hlw hP hD hS => ?_)
    obtain ⟨rfl, rfl⟩ := hp
    have hP : va_P (gD G) vwC (wW G h np no dg 0 (va_up (va_up sk 0 0) 0 k9_25) (va_up (va_up sc 0 0) 0 c9_25) (va_up sf 0 (tkF (sf 0) f9_25 k9_25)) (va_up so 0 (tkF (so 0) o9_25 (2 * c9_25))) tl q9_25 0 0 t k9_25 c9_25 f9_25 o9_25 u9_25 b9_25 d9_25 ln ks la nx py fi rb de wt wk wn) H := hP
    have hD : va_D A (wW G h np no dg 0 (va_up (va_up sk 0 0) 0 k9_25) (va_up (va_up sc 0 0) 0 c9_25) (va_up sf 0 (tkF (sf 0) f9_25 k9_25)) (va_up so 0 (tkF (so 0) o9_25 (2 * c9_25))) tl q9_25 0 0 t k9_25 c9_25 f9_25 o9_25 u9_25 b9_25 d9_25 ln ks la nx py fi rb de wt wk wn) := hD
    refine W.eq (g2 := F0 mm 44 ls [.int (if 0 < ((va_up (va_up sk 0 0) 0 k9_25) 0) then ((va_up sf 0 (tkF (sf 0) f9_25 k9_25)) 0) 0 else 0)]) rfl ?_
    exact yr_i (ws := wW G h np no dg 0 (va_up (va_up sk 0 0) 0 k9_25) (va_up (va_up sc 0 0) 0 c9_25) (va_up sf 0 (tkF (sf 0) f9_25 k9_25)) (va_up so 0 (tkF (so 0) o9_25 (2 * c9_25))) tl q9_25 0 0 t k9_25 c9_25 f9_25 o9_25 u9_25 b9_25 d9_25 ln ks la nx py fi rb de wt wk wn) hx hb hrt hlocks (⟨_, _, _, _, _, _, _, _, _, by decide, rfl, hs_25, hs1_25, hs2_25, rfl, rfl⟩) rfl hK hP hD hS d_W_read_44
  · skip
    refine lv_astore_n (lv' := [(3, .ref (h 5)), (2, .int (nI tl)), (0, .ref (h 0)), (1, .int (nI 1))]) hx hb d_W_read_15 rfl hl (by decide) rfl (fun ls hl => ?_)
    refine lv_aload_n hx hb d_W_read_16 rfl (lv_at hl 0 rfl) ?_
    refine y_call (y_runV (As := []) (rest := []) hx hb hml hown (c_S_clear l G (fun i => h (i + 5)) np no (sk 1) (sc 1) (sf 1) (so 1)  ) (gV (n := 0) hg tk_315 tk_316 tk_317 tk_3 tk_318 (by decide +kernel) ⟨Nat.le_of_ble_eq_true rfl, Nat.le_of_ble_eq_true rfl⟩) (va_recv hK hP (ci := 2) (q0 := 5) rfl rfl) (y_pre hE hK hP hD hS hA [5, 6, 7] rfl rfl) rfl rfl hl.1 rfl (lv_room (Nat.le_of_ble_eq_true rfl)) d_W_read_17 ⟨Nat.le_of_ble_eq_true rfl, Nat.le_of_ble_eq_true rfl⟩) hP hD hS hA [5, 6, 7] rfl (fun _ _ _ _ _ _ hp => False.elim hp) (fun v9 w9 H locs hp hlw hP hD hS => ?_)
    obtain ⟨rfl, rfl⟩ := hp
    have hP : va_P (gD G) vwC (wW G h np no dg 0 (va_up sk 1 0) (va_up sc 1 0) sf so n p fk fp t k c f o bt bk bn ln ks la nx py fi rb de wt wk wn) H := hP
    have hD : va_D A (wW G h np no dg 0 (va_up sk 1 0) (va_up sc 1 0) sf so n p fk fp t k c f o bt bk bn ln ks la nx py fi rb de wt wk wn) := hD
    refine W.eq (g2 := F0 mm 20 ls []) rfl ?_
    refine lv_aload_n hx hb d_W_read_20 rfl (lv_at hl 2 rfl) ?_
    refine va_get (D := gD G) (ci := 4) (v := .ref (h 14)) (C := "WordShapes") (T := TW) (N := 5) hx hb hg iw_W hown hK hP 0 rfl rfl 2 (by decide) (hg _ tk_157) (fun _ h9 => h9) rfl d_W_read_21 ?_
    refine lv_iload_n hx hb d_W_read_24 rfl (lv_at hl 1 rfl) ?_
    refine y_call (y_runV (As := [.int (nI tl)]) (rest := []) hx hb hml hown (c_R_readText hlt G (fun i => h (i + 14)) dg n p fk fp t np no k c f o bt bk bn tl (by omega) (ht) (by omega) (by omega) (by omega) (by omega)) (gV (n := 1) hg tk_319 tk_320 tk_321 tk_4 tk_322 (by decide +kernel) ⟨Nat.le_of_ble_eq_true rfl, Nat.le_of_ble_eq_true rfl⟩) (va_recv hK hP (ci := 1) (q0 := 14) rfl rfl) (y_pre hE hK hP hD hS hA [14, 15, 16, 17, 18, 19, 20, 21] rfl rfl) rfl rfl hl.1 rfl (lv_room (Nat.le_of_ble_eq_true rfl)) d_W_read_25 ⟨Nat.le_of_ble_eq_true rfl, Nat.le_of_ble_eq_true rfl⟩) hP hD hS hA [14, 15, 16, 17, 18, 19, 20, 21] rfl (fun E9 w9 qx cx H locs hp hlw hP hD hS hq1 hq2 hq3 => ?_) (fun v9 w9 H locs hp hlw hP hD hS => ?_)
    · skip
      obtain ⟨a_25, b_25, hs_25, rfl, q_25, k2_25, f2_25, c2_25, o2_25, u2_25, b2_25, d2_25, rfl⟩ := hp
      have hP : va_P (gD G) vwC (wW G h np no dg 0 (va_up sk 1 0) (va_up sc 1 0) sf so tl q_25 a_25 b_25 t k2_25 c2_25 f2_25 o2_25 u2_25 b2_25 d2_25 ln ks la nx py fi rb de wt wk wn) H := hP
      have hD : va_D A (wW G h np no dg 0 (va_up sk 1 0) (va_up sc 1 0) sf so tl q_25 a_25 b_25 t k2_25 c2_25 f2_25 o2_25 u2_25 b2_25 d2_25 ln ks la nx py fi rb de wt wk wn) := hD
      exact y_out (ws := wW G h np no dg 0 (va_up sk 1 0) (va_up sc 1 0) sf so tl q_25 a_25 b_25 t k2_25 c2_25 f2_25 o2_25 u2_25 b2_25 d2_25 ln ks la nx py fi rb de wt wk wn) hxt hlocks hq1 hq2 hq3 (Or.inr ⟨_, _, _, _, _, _, _, _, _, _, _, by decide, rfl, hs_25, rfl, rfl⟩) rfl hK hP hD hS
    obtain ⟨q9_25, k9_25, f9_25, c9_25, o9_25, u9_25, b9_25, d9_25, hs_25, hs1_25, hs2_25, rfl, rfl⟩ := hp
    have hP : va_P (gD G) vwC (wW G h np no dg 0 (va_up sk 1 0) (va_up sc 1 0) sf so tl q9_25 0 0 t k9_25 c9_25 f9_25 o9_25 u9_25 b9_25 d9_25 ln ks la nx py fi rb de wt wk wn) H := hP
    have hD : va_D A (wW G h np no dg 0 (va_up sk 1 0) (va_up sc 1 0) sf so tl q9_25 0 0 t k9_25 c9_25 f9_25 o9_25 u9_25 b9_25 d9_25 ln ks la nx py fi rb de wt wk wn) := hD
    refine W.eq (g2 := F0 mm 28 ls []) rfl ?_
    refine lv_aload_n hx hb d_W_read_28 rfl (lv_at hl 0 rfl) ?_
    refine lv_aload_n hx hb d_W_read_29 rfl (lv_at hl 2 rfl) ?_
    refine va_get (D := gD G) (ci := 4) (v := .ref (h 14)) (C := "WordShapes") (T := TW) (N := 5) hx hb hg iw_W hown hK hP 0 rfl rfl 2 (by decide) (hg _ tk_157) (fun _ h9 => h9) rfl d_W_read_30 ?_
    refine va_getN (D := gD G) (ci := 1) (v := .ref (h 16)) (C := "WordShapes$Reader") (T := TR) (N := 8) hx hb hg iw_R hown hK hP 14 rfl rfl 2 (by decide) (va_Nw.use rfl (nw_89 hE.1)) (fun _ h9 => h9) rfl d_W_read_33 ?_
    refine y_call (y_runV (As := [.ref (h 16)]) (rest := []) hx hb hml hown (c_S_takeFrom l G (fun i => h (i + 5)) (fun i => h (i + 16)) np no ((va_up sk 1 0) 1) ((va_up sc 1 0) 1) (sf 1) (so 1) k9_25 c9_25 f9_25 o9_25  (by omega) (by omega) (by omega) (by omega)) (gV (n := 1) hg tk_530 tk_531 tk_532 tk_3 tk_533 (by decide +kernel) ⟨Nat.le_of_ble_eq_true rfl, Nat.le_of_ble_eq_true rfl⟩) (va_recv hK hP (ci := 2) (q0 := 5) rfl rfl) (y_pre hE hK hP hD hS hA [5, 6, 7, 16, 17, 18] rfl rfl) rfl rfl hl.1 rfl (lv_room (Nat.le_of_ble_eq_true rfl)) d_W_read_36 ⟨Nat.le_of_ble_eq_true rfl, Nat.le_of_ble_eq_true rfl⟩) hP hD hS hA [5, 6, 7, 16, 17, 18] rfl (fun _ _ _ _ _ _ hp => False.elim hp) (fun v9 w9 H locs hp hlw hP hD hS => ?_)
    obtain ⟨rfl, rfl⟩ := hp
    have hP : va_P (gD G) vwC (wW G h np no dg 0 (va_up (va_up sk 1 0) 1 k9_25) (va_up (va_up sc 1 0) 1 c9_25) (va_up sf 1 (tkF (sf 1) f9_25 k9_25)) (va_up so 1 (tkF (so 1) o9_25 (2 * c9_25))) tl q9_25 0 0 t k9_25 c9_25 f9_25 o9_25 u9_25 b9_25 d9_25 ln ks la nx py fi rb de wt wk wn) H := hP
    have hD : va_D A (wW G h np no dg 0 (va_up (va_up sk 1 0) 1 k9_25) (va_up (va_up sc 1 0) 1 c9_25) (va_up sf 1 (tkF (sf 1) f9_25 k9_25)) (va_up so 1 (tkF (so 1) o9_25 (2 * c9_25))) tl q9_25 0 0 t k9_25 c9_25 f9_25 o9_25 u9_25 b9_25 d9_25 ln ks la nx py fi rb de wt wk wn) := hD
    refine W.eq (g2 := F0 mm 39 ls []) rfl ?_
    refine lv_aload_n hx hb d_W_read_39 rfl (lv_at hl 0 rfl) ?_
    refine lv_iconst (v := nI 0) hx hb d_W_read_40 (by decide) ?_
    refine y_call (y_runV (As := [.int (nI 0)]) (rest := []) hx hb hml hown (c_S_numberAt l G (fun i => h (i + 5)) np no ((va_up (va_up sk 1 0) 1 k9_25) 1) ((va_up (va_up sc 1 0) 1 c9_25) 1) ((va_up sf 1 (tkF (sf 1) f9_25 k9_25)) 1) ((va_up so 1 (tkF (so 1) o9_25 (2 * c9_25))) 1) 0 (by omega) (hs1_25) (by omega)) (gV (n := 1) hg tk_537 tk_538 tk_539 tk_3 tk_540 (by decide +kernel) ⟨Nat.le_of_ble_eq_true rfl, Nat.le_of_ble_eq_true rfl⟩) (va_recv hK hP (ci := 2) (q0 := 5) rfl rfl) (y_pre hE hK hP hD hS hA [5, 6, 7] rfl rfl) rfl rfl hl.1 rfl (lv_room (Nat.le_of_ble_eq_true rfl)) d_W_read_41 ⟨Nat.le_of_ble_eq_true rfl, Nat.le_of_ble_eq_true rfl⟩) hP hD hS hA [5, 6, 7] rfl (fun _ _ _ _ _ _ hp => False.elim hp) (fun v9 w9 H locs hp hlw hP hD hS => ?_)
    obtain ⟨rfl, rfl⟩ := hp
    have hP : va_P (gD G) vwC (wW G h np no dg 0 (va_up (va_up sk 1 0) 1 k9_25) (va_up (va_up sc 1 0) 1 c9_25) (va_up sf 1 (tkF (sf 1) f9_25 k9_25)) (va_up so 1 (tkF (so 1) o9_25 (2 * c9_25))) tl q9_25 0 0 t k9_25 c9_25 f9_25 o9_25 u9_25 b9_25 d9_25 ln ks la nx py fi rb de wt wk wn) H := hP
    have hD : va_D A (wW G h np no dg 0 (va_up (va_up sk 1 0) 1 k9_25) (va_up (va_up sc 1 0) 1 c9_25) (va_up sf 1 (tkF (sf 1) f9_25 k9_25)) (va_up so 1 (tkF (so 1) o9_25 (2 * c9_25))) tl q9_25 0 0 t k9_25 c9_25 f9_25 o9_25 u9_25 b9_25 d9_25 ln ks la nx py fi rb de wt wk wn) := hD
    refine W.eq (g2 := F0 mm 44 ls [.int (if 0 < ((va_up (va_up sk 1 0) 1 k9_25) 1) then ((va_up sf 1 (tkF (sf 1) f9_25 k9_25)) 1) 0 else 0)]) rfl ?_
    exact yr_i (ws := wW G h np no dg 0 (va_up (va_up sk 1 0) 1 k9_25) (va_up (va_up sc 1 0) 1 c9_25) (va_up sf 1 (tkF (sf 1) f9_25 k9_25)) (va_up so 1 (tkF (so 1) o9_25 (2 * c9_25))) tl q9_25 0 0 t k9_25 c9_25 f9_25 o9_25 u9_25 b9_25 d9_25 ln ks la nx py fi rb de wt wk wn) hx hb hrt hlocks (⟨_, _, _, _, _, _, _, _, _, by decide, rfl, hs_25, hs1_25, hs2_25, rfl, rfl⟩) rfl hK hP hD hS d_W_read_44
  · skip
    refine lv_astore_n (lv' := [(3, .ref (h 8)), (2, .int (nI tl)), (0, .ref (h 0)), (1, .int (nI 2))]) hx hb d_W_read_15 rfl hl (by decide) rfl (fun ls hl => ?_)
    refine lv_aload_n hx hb d_W_read_16 rfl (lv_at hl 0 rfl) ?_
    refine y_call (y_runV (As := []) (rest := []) hx hb hml hown (c_S_clear l G (fun i => h (i + 8)) np no (sk 2) (sc 2) (sf 2) (so 2)  ) (gV (n := 0) hg tk_315 tk_316 tk_317 tk_3 tk_318 (by decide +kernel) ⟨Nat.le_of_ble_eq_true rfl, Nat.le_of_ble_eq_true rfl⟩) (va_recv hK hP (ci := 2) (q0 := 8) rfl rfl) (y_pre hE hK hP hD hS hA [8, 9, 10] rfl rfl) rfl rfl hl.1 rfl (lv_room (Nat.le_of_ble_eq_true rfl)) d_W_read_17 ⟨Nat.le_of_ble_eq_true rfl, Nat.le_of_ble_eq_true rfl⟩) hP hD hS hA [8, 9, 10] rfl (fun _ _ _ _ _ _ hp => False.elim hp) (fun v9 w9 H locs hp hlw hP hD hS => ?_)
    obtain ⟨rfl, rfl⟩ := hp
    have hP : va_P (gD G) vwC (wW G h np no dg 0 (va_up sk 2 0) (va_up sc 2 0) sf so n p fk fp t k c f o bt bk bn ln ks la nx py fi rb de wt wk wn) H := hP
    have hD : va_D A (wW G h np no dg 0 (va_up sk 2 0) (va_up sc 2 0) sf so n p fk fp t k c f o bt bk bn ln ks la nx py fi rb de wt wk wn) := hD
    refine W.eq (g2 := F0 mm 20 ls []) rfl ?_
    refine lv_aload_n hx hb d_W_read_20 rfl (lv_at hl 2 rfl) ?_
    refine va_get (D := gD G) (ci := 4) (v := .ref (h 14)) (C := "WordShapes") (T := TW) (N := 5) hx hb hg iw_W hown hK hP 0 rfl rfl 2 (by decide) (hg _ tk_157) (fun _ h9 => h9) rfl d_W_read_21 ?_
    refine lv_iload_n hx hb d_W_read_24 rfl (lv_at hl 1 rfl) ?_
    refine y_call (y_runV (As := [.int (nI tl)]) (rest := []) hx hb hml hown (c_R_readText hlt G (fun i => h (i + 14)) dg n p fk fp t np no k c f o bt bk bn tl (by omega) (ht) (by omega) (by omega) (by omega) (by omega)) (gV (n := 1) hg tk_319 tk_320 tk_321 tk_4 tk_322 (by decide +kernel) ⟨Nat.le_of_ble_eq_true rfl, Nat.le_of_ble_eq_true rfl⟩) (va_recv hK hP (ci := 1) (q0 := 14) rfl rfl) (y_pre hE hK hP hD hS hA [14, 15, 16, 17, 18, 19, 20, 21] rfl rfl) rfl rfl hl.1 rfl (lv_room (Nat.le_of_ble_eq_true rfl)) d_W_read_25 ⟨Nat.le_of_ble_eq_true rfl, Nat.le_of_ble_eq_true rfl⟩) hP hD hS hA [14, 15, 16, 17, 18, 19, 20, 21] rfl (fun E9 w9 qx cx H locs hp hlw hP hD hS hq1 hq2 hq3 => ?_) (fun v9 w9 H locs hp hlw hP hD hS => ?_)
    · skip
      obtain ⟨a_25, b_25, hs_25, rfl, q_25, k2_25, f2_25, c2_25, o2_25, u2_25, b2_25, d2_25, rfl⟩ := hp
      have hP : va_P (gD G) vwC (wW G h np no dg 0 (va_up sk 2 0) (va_up sc 2 0) sf so tl q_25 a_25 b_25 t k2_25 c2_25 f2_25 o2_25 u2_25 b2_25 d2_25 ln ks la nx py fi rb de wt wk wn) H := hP
      have hD : va_D A (wW G h np no dg 0 (va_up sk 2 0) (va_up sc 2 0) sf so tl q_25 a_25 b_25 t k2_25 c2_25 f2_25 o2_25 u2_25 b2_25 d2_25 ln ks la nx py fi rb de wt wk wn) := hD
      exact y_out (ws := wW G h np no dg 0 (va_up sk 2 0) (va_up sc 2 0) sf so tl q_25 a_25 b_25 t k2_25 c2_25 f2_25 o2_25 u2_25 b2_25 d2_25 ln ks la nx py fi rb de wt wk wn) hxt hlocks hq1 hq2 hq3 (Or.inr ⟨_, _, _, _, _, _, _, _, _, _, _, by decide, rfl, hs_25, rfl, rfl⟩) rfl hK hP hD hS
    obtain ⟨q9_25, k9_25, f9_25, c9_25, o9_25, u9_25, b9_25, d9_25, hs_25, hs1_25, hs2_25, rfl, rfl⟩ := hp
    have hP : va_P (gD G) vwC (wW G h np no dg 0 (va_up sk 2 0) (va_up sc 2 0) sf so tl q9_25 0 0 t k9_25 c9_25 f9_25 o9_25 u9_25 b9_25 d9_25 ln ks la nx py fi rb de wt wk wn) H := hP
    have hD : va_D A (wW G h np no dg 0 (va_up sk 2 0) (va_up sc 2 0) sf so tl q9_25 0 0 t k9_25 c9_25 f9_25 o9_25 u9_25 b9_25 d9_25 ln ks la nx py fi rb de wt wk wn) := hD
    refine W.eq (g2 := F0 mm 28 ls []) rfl ?_
    refine lv_aload_n hx hb d_W_read_28 rfl (lv_at hl 0 rfl) ?_
    refine lv_aload_n hx hb d_W_read_29 rfl (lv_at hl 2 rfl) ?_
    refine va_get (D := gD G) (ci := 4) (v := .ref (h 14)) (C := "WordShapes") (T := TW) (N := 5) hx hb hg iw_W hown hK hP 0 rfl rfl 2 (by decide) (hg _ tk_157) (fun _ h9 => h9) rfl d_W_read_30 ?_
    refine va_getN (D := gD G) (ci := 1) (v := .ref (h 16)) (C := "WordShapes$Reader") (T := TR) (N := 8) hx hb hg iw_R hown hK hP 14 rfl rfl 2 (by decide) (va_Nw.use rfl (nw_89 hE.1)) (fun _ h9 => h9) rfl d_W_read_33 ?_
    refine y_call (y_runV (As := [.ref (h 16)]) (rest := []) hx hb hml hown (c_S_takeFrom l G (fun i => h (i + 8)) (fun i => h (i + 16)) np no ((va_up sk 2 0) 2) ((va_up sc 2 0) 2) (sf 2) (so 2) k9_25 c9_25 f9_25 o9_25  (by omega) (by omega) (by omega) (by omega)) (gV (n := 1) hg tk_530 tk_531 tk_532 tk_3 tk_533 (by decide +kernel) ⟨Nat.le_of_ble_eq_true rfl, Nat.le_of_ble_eq_true rfl⟩) (va_recv hK hP (ci := 2) (q0 := 8) rfl rfl) (y_pre hE hK hP hD hS hA [8, 9, 10, 16, 17, 18] rfl rfl) rfl rfl hl.1 rfl (lv_room (Nat.le_of_ble_eq_true rfl)) d_W_read_36 ⟨Nat.le_of_ble_eq_true rfl, Nat.le_of_ble_eq_true rfl⟩) hP hD hS hA [8, 9, 10, 16, 17, 18] rfl (fun _ _ _ _ _ _ hp => False.elim hp) (fun v9 w9 H locs hp hlw hP hD hS => ?_)
    obtain ⟨rfl, rfl⟩ := hp
    have hP : va_P (gD G) vwC (wW G h np no dg 0 (va_up (va_up sk 2 0) 2 k9_25) (va_up (va_up sc 2 0) 2 c9_25) (va_up sf 2 (tkF (sf 2) f9_25 k9_25)) (va_up so 2 (tkF (so 2) o9_25 (2 * c9_25))) tl q9_25 0 0 t k9_25 c9_25 f9_25 o9_25 u9_25 b9_25 d9_25 ln ks la nx py fi rb de wt wk wn) H := hP
    have hD : va_D A (wW G h np no dg 0 (va_up (va_up sk 2 0) 2 k9_25) (va_up (va_up sc 2 0) 2 c9_25) (va_up sf 2 (tkF (sf 2) f9_25 k9_25)) (va_up so 2 (tkF (so 2) o9_25 (2 * c9_25))) tl q9_25 0 0 t k9_25 c9_25 f9_25 o9_25 u9_25 b9_25 d9_25 ln ks la nx py fi rb de wt wk wn) := hD
    refine W.eq (g2 := F0 mm 39 ls []) rfl ?_
    refine lv_aload_n hx hb d_W_read_39 rfl (lv_at hl 0 rfl) ?_
    refine lv_iconst (v := nI 0) hx hb d_W_read_40 (by decide) ?_
    refine y_call (y_runV (As := [.int (nI 0)]) (rest := []) hx hb hml hown (c_S_numberAt l G (fun i => h (i + 8)) np no ((va_up (va_up sk 2 0) 2 k9_25) 2) ((va_up (va_up sc 2 0) 2 c9_25) 2) ((va_up sf 2 (tkF (sf 2) f9_25 k9_25)) 2) ((va_up so 2 (tkF (so 2) o9_25 (2 * c9_25))) 2) 0 (by omega) (hs1_25) (by omega)) (gV (n := 1) hg tk_537 tk_538 tk_539 tk_3 tk_540 (by decide +kernel) ⟨Nat.le_of_ble_eq_true rfl, Nat.le_of_ble_eq_true rfl⟩) (va_recv hK hP (ci := 2) (q0 := 8) rfl rfl) (y_pre hE hK hP hD hS hA [8, 9, 10] rfl rfl) rfl rfl hl.1 rfl (lv_room (Nat.le_of_ble_eq_true rfl)) d_W_read_41 ⟨Nat.le_of_ble_eq_true rfl, Nat.le_of_ble_eq_true rfl⟩) hP hD hS hA [8, 9, 10] rfl (fun _ _ _ _ _ _ hp => False.elim hp) (fun v9 w9 H locs hp hlw hP hD hS => ?_)
    obtain ⟨rfl, rfl⟩ := hp
    have hP : va_P (gD G) vwC (wW G h np no dg 0 (va_up (va_up sk 2 0) 2 k9_25) (va_up (va_up sc 2 0) 2 c9_25) (va_up sf 2 (tkF (sf 2) f9_25 k9_25)) (va_up so 2 (tkF (so 2) o9_25 (2 * c9_25))) tl q9_25 0 0 t k9_25 c9_25 f9_25 o9_25 u9_25 b9_25 d9_25 ln ks la nx py fi rb de wt wk wn) H := hP
    have hD : va_D A (wW G h np no dg 0 (va_up (va_up sk 2 0) 2 k9_25) (va_up (va_up sc 2 0) 2 c9_25) (va_up sf 2 (tkF (sf 2) f9_25 k9_25)) (va_up so 2 (tkF (so 2) o9_25 (2 * c9_25))) tl q9_25 0 0 t k9_25 c9_25 f9_25 o9_25 u9_25 b9_25 d9_25 ln ks la nx py fi rb de wt wk wn) := hD
    refine W.eq (g2 := F0 mm 44 ls [.int (if 0 < ((va_up (va_up sk 2 0) 2 k9_25) 2) then ((va_up sf 2 (tkF (sf 2) f9_25 k9_25)) 2) 0 else 0)]) rfl ?_
    exact yr_i (ws := wW G h np no dg 0 (va_up (va_up sk 2 0) 2 k9_25) (va_up (va_up sc 2 0) 2 c9_25) (va_up sf 2 (tkF (sf 2) f9_25 k9_25)) (va_up so 2 (tkF (so 2) o9_25 (2 * c9_25))) tl q9_25 0 0 t k9_25 c9_25 f9_25 o9_25 u9_25 b9_25 d9_25 ln ks la nx py fi rb de wt wk wn) hx hb hrt hlocks (⟨_, _, _, _, _, _, _, _, _, by decide, rfl, hs_25, hs1_25, hs2_25, rfl, rfl⟩) rfl hK hP hD hS d_W_read_44
  · skip
    refine lv_astore_n (lv' := [(3, .ref (h 11)), (2, .int (nI tl)), (0, .ref (h 0)), (1, .int (nI 3))]) hx hb d_W_read_15 rfl hl (by decide) rfl (fun ls hl => ?_)
    refine lv_aload_n hx hb d_W_read_16 rfl (lv_at hl 0 rfl) ?_
    refine y_call (y_runV (As := []) (rest := []) hx hb hml hown (c_S_clear l G (fun i => h (i + 11)) np no (sk 3) (sc 3) (sf 3) (so 3)  ) (gV (n := 0) hg tk_315 tk_316 tk_317 tk_3 tk_318 (by decide +kernel) ⟨Nat.le_of_ble_eq_true rfl, Nat.le_of_ble_eq_true rfl⟩) (va_recv hK hP (ci := 2) (q0 := 11) rfl rfl) (y_pre hE hK hP hD hS hA [11, 12, 13] rfl rfl) rfl rfl hl.1 rfl (lv_room (Nat.le_of_ble_eq_true rfl)) d_W_read_17 ⟨Nat.le_of_ble_eq_true rfl, Nat.le_of_ble_eq_true rfl⟩) hP hD hS hA [11, 12, 13] rfl (fun _ _ _ _ _ _ hp => False.elim hp) (fun v9 w9 H locs hp hlw hP hD hS => ?_)
    obtain ⟨rfl, rfl⟩ := hp
    have hP : va_P (gD G) vwC (wW G h np no dg 0 (va_up sk 3 0) (va_up sc 3 0) sf so n p fk fp t k c f o bt bk bn ln ks la nx py fi rb de wt wk wn) H := hP
    have hD : va_D A (wW G h np no dg 0 (va_up sk 3 0) (va_up sc 3 0) sf so n p fk fp t k c f o bt bk bn ln ks la nx py fi rb de wt wk wn) := hD
    refine W.eq (g2 := F0 mm 20 ls []) rfl ?_
    refine lv_aload_n hx hb d_W_read_20 rfl (lv_at hl 2 rfl) ?_
    refine va_get (D := gD G) (ci := 4) (v := .ref (h 14)) (C := "WordShapes") (T := TW) (N := 5) hx hb hg iw_W hown hK hP 0 rfl rfl 2 (by decide) (hg _ tk_157) (fun _ h9 => h9) rfl d_W_read_21 ?_
    refine lv_iload_n hx hb d_W_read_24 rfl (lv_at hl 1 rfl) ?_
    refine y_call (y_runV (As := [.int (nI tl)]) (rest := []) hx hb hml hown (c_R_readText hlt G (fun i => h (i + 14)) dg n p fk fp t np no k c f o bt bk bn tl (by omega) (ht) (by omega) (by omega) (by omega) (by omega)) (gV (n := 1) hg tk_319 tk_320 tk_321 tk_4 tk_322 (by decide +kernel) ⟨Nat.le_of_ble_eq_true rfl, Nat.le_of_ble_eq_true rfl⟩) (va_recv hK hP (ci := 1) (q0 := 14) rfl rfl) (y_pre hE hK hP hD hS hA [14, 15, 16, 17, 18, 19, 20, 21] rfl rfl) rfl rfl hl.1 rfl (lv_room (Nat.le_of_ble_eq_true rfl)) d_W_read_25 ⟨Nat.le_of_ble_eq_true rfl, Nat.le_of_ble_eq_true rfl⟩) hP hD hS hA [14, 15, 16, 17, 18, 19, 20, 21] rfl (fun E9 w9 qx cx H locs hp hlw hP hD hS hq1 hq2 hq3 => ?_) (fun v9 w9 H locs hp hlw hP hD hS => ?_)
    · skip
      obtain ⟨a_25, b_25, hs_25, rfl, q_25, k2_25, f2_25, c2_25, o2_25, u2_25, b2_25, d2_25, rfl⟩ := hp
      have hP : va_P (gD G) vwC (wW G h np no dg 0 (va_up sk 3 0) (va_up sc 3 0) sf so tl q_25 a_25 b_25 t k2_25 c2_25 f2_25 o2_25 u2_25 b2_25 d2_25 ln ks la nx py fi rb de wt wk wn) H := hP
      have hD : va_D A (wW G h np no dg 0 (va_up sk 3 0) (va_up sc 3 0) sf so tl q_25 a_25 b_25 t k2_25 c2_25 f2_25 o2_25 u2_25 b2_25 d2_25 ln ks la nx py fi rb de wt wk wn) := hD
      exact y_out (ws := wW G h np no dg 0 (va_up sk 3 0) (va_up sc 3 0) sf so tl q_25 a_25 b_25 t k2_25 c2_25 f2_25 o2_25 u2_25 b2_25 d2_25 ln ks la nx py fi rb de wt wk wn) hxt hlocks hq1 hq2 hq3 (Or.inr ⟨_, _, _, _, _, _, _, _, _, _, _, by decide, rfl, hs_25, rfl, rfl⟩) rfl hK hP hD hS
    obtain ⟨q9_25, k9_25, f9_25, c9_25, o9_25, u9_25, b9_25, d9_25, hs_25, hs1_25, hs2_25, rfl, rfl⟩ := hp
    have hP : va_P (gD G) vwC (wW G h np no dg 0 (va_up sk 3 0) (va_up sc 3 0) sf so tl q9_25 0 0 t k9_25 c9_25 f9_25 o9_25 u9_25 b9_25 d9_25 ln ks la nx py fi rb de wt wk wn) H := hP
    have hD : va_D A (wW G h np no dg 0 (va_up sk 3 0) (va_up sc 3 0) sf so tl q9_25 0 0 t k9_25 c9_25 f9_25 o9_25 u9_25 b9_25 d9_25 ln ks la nx py fi rb de wt wk wn) := hD
    refine W.eq (g2 := F0 mm 28 ls []) rfl ?_
    refine lv_aload_n hx hb d_W_read_28 rfl (lv_at hl 0 rfl) ?_
    refine lv_aload_n hx hb d_W_read_29 rfl (lv_at hl 2 rfl) ?_
    refine va_get (D := gD G) (ci := 4) (v := .ref (h 14)) (C := "WordShapes") (T := TW) (N := 5) hx hb hg iw_W hown hK hP 0 rfl rfl 2 (by decide) (hg _ tk_157) (fun _ h9 => h9) rfl d_W_read_30 ?_
    refine va_getN (D := gD G) (ci := 1) (v := .ref (h 16)) (C := "WordShapes$Reader") (T := TR) (N := 8) hx hb hg iw_R hown hK hP 14 rfl rfl 2 (by decide) (va_Nw.use rfl (nw_89 hE.1)) (fun _ h9 => h9) rfl d_W_read_33 ?_
    refine y_call (y_runV (As := [.ref (h 16)]) (rest := []) hx hb hml hown (c_S_takeFrom l G (fun i => h (i + 11)) (fun i => h (i + 16)) np no ((va_up sk 3 0) 3) ((va_up sc 3 0) 3) (sf 3) (so 3) k9_25 c9_25 f9_25 o9_25  (by omega) (by omega) (by omega) (by omega)) (gV (n := 1) hg tk_530 tk_531 tk_532 tk_3 tk_533 (by decide +kernel) ⟨Nat.le_of_ble_eq_true rfl, Nat.le_of_ble_eq_true rfl⟩) (va_recv hK hP (ci := 2) (q0 := 11) rfl rfl) (y_pre hE hK hP hD hS hA [11, 12, 13, 16, 17, 18] rfl rfl) rfl rfl hl.1 rfl (lv_room (Nat.le_of_ble_eq_true rfl)) d_W_read_36 ⟨Nat.le_of_ble_eq_true rfl, Nat.le_of_ble_eq_true rfl⟩) hP hD hS hA [11, 12, 13, 16, 17, 18] rfl (fun _ _ _ _ _ _ hp => False.elim hp) (fun v9 w9 H locs hp hlw hP hD hS => ?_)
    obtain ⟨rfl, rfl⟩ := hp
    have hP : va_P (gD G) vwC (wW G h np no dg 0 (va_up (va_up sk 3 0) 3 k9_25) (va_up (va_up sc 3 0) 3 c9_25) (va_up sf 3 (tkF (sf 3) f9_25 k9_25)) (va_up so 3 (tkF (so 3) o9_25 (2 * c9_25))) tl q9_25 0 0 t k9_25 c9_25 f9_25 o9_25 u9_25 b9_25 d9_25 ln ks la nx py fi rb de wt wk wn) H := hP
    have hD : va_D A (wW G h np no dg 0 (va_up (va_up sk 3 0) 3 k9_25) (va_up (va_up sc 3 0) 3 c9_25) (va_up sf 3 (tkF (sf 3) f9_25 k9_25)) (va_up so 3 (tkF (so 3) o9_25 (2 * c9_25))) tl q9_25 0 0 t k9_25 c9_25 f9_25 o9_25 u9_25 b9_25 d9_25 ln ks la nx py fi rb de wt wk wn) := hD
    refine W.eq (g2 := F0 mm 39 ls []) rfl ?_
    refine lv_aload_n hx hb d_W_read_39 rfl (lv_at hl 0 rfl) ?_
    refine lv_iconst (v := nI 0) hx hb d_W_read_40 (by decide) ?_
    refine y_call (y_runV (As := [.int (nI 0)]) (rest := []) hx hb hml hown (c_S_numberAt l G (fun i => h (i + 11)) np no ((va_up (va_up sk 3 0) 3 k9_25) 3) ((va_up (va_up sc 3 0) 3 c9_25) 3) ((va_up sf 3 (tkF (sf 3) f9_25 k9_25)) 3) ((va_up so 3 (tkF (so 3) o9_25 (2 * c9_25))) 3) 0 (by omega) (hs1_25) (by omega)) (gV (n := 1) hg tk_537 tk_538 tk_539 tk_3 tk_540 (by decide +kernel) ⟨Nat.le_of_ble_eq_true rfl, Nat.le_of_ble_eq_true rfl⟩) (va_recv hK hP (ci := 2) (q0 := 11) rfl rfl) (y_pre hE hK hP hD hS hA [11, 12, 13] rfl rfl) rfl rfl hl.1 rfl (lv_room (Nat.le_of_ble_eq_true rfl)) d_W_read_41 ⟨Nat.le_of_ble_eq_true rfl, Nat.le_of_ble_eq_true rfl⟩) hP hD hS hA [11, 12, 13] rfl (fun _ _ _ _ _ _ hp => False.elim hp) (fun v9 w9 H locs hp hlw hP hD hS => ?_)
    obtain ⟨rfl, rfl⟩ := hp
    have hP : va_P (gD G) vwC (wW G h np no dg 0 (va_up (va_up sk 3 0) 3 k9_25) (va_up (va_up sc 3 0) 3 c9_25) (va_up sf 3 (tkF (sf 3) f9_25 k9_25)) (va_up so 3 (tkF (so 3) o9_25 (2 * c9_25))) tl q9_25 0 0 t k9_25 c9_25 f9_25 o9_25 u9_25 b9_25 d9_25 ln ks la nx py fi rb de wt wk wn) H := hP
    have hD : va_D A (wW G h np no dg 0 (va_up (va_up sk 3 0) 3 k9_25) (va_up (va_up sc 3 0) 3 c9_25) (va_up sf 3 (tkF (sf 3) f9_25 k9_25)) (va_up so 3 (tkF (so 3) o9_25 (2 * c9_25))) tl q9_25 0 0 t k9_25 c9_25 f9_25 o9_25 u9_25 b9_25 d9_25 ln ks la nx py fi rb de wt wk wn) := hD
    refine W.eq (g2 := F0 mm 44 ls [.int (if 0 < ((va_up (va_up sk 3 0) 3 k9_25) 3) then ((va_up sf 3 (tkF (sf 3) f9_25 k9_25)) 3) 0 else 0)]) rfl ?_
    exact yr_i (ws := wW G h np no dg 0 (va_up (va_up sk 3 0) 3 k9_25) (va_up (va_up sc 3 0) 3 c9_25) (va_up sf 3 (tkF (sf 3) f9_25 k9_25)) (va_up so 3 (tkF (so 3) o9_25 (2 * c9_25))) tl q9_25 0 0 t k9_25 c9_25 f9_25 o9_25 u9_25 b9_25 d9_25 ln ks la nx py fi rb de wt wk wn) hx hb hrt hlocks (⟨_, _, _, _, _, _, _, _, _, by decide, rfl, hs_25, hs1_25, hs2_25, rfl, rfl⟩) rfl hK hP hD hS d_W_read_44
