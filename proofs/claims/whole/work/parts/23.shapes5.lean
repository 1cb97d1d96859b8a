set_option maxHeartbeats 4000000 in
set_option maxRecDepth 100000 in
theorem c_W_write {l : Launch} (hlt : l.stackTraces = false) (G : gl) (h : Nat → Nat) (np : Nat) (no : Nat) (dg : Nat) (tl : Nat) (sk : Nat → Nat) (sc : Nat → Nat) (sf : Nat → Nat → Int32) (so : Nat → Nat → Int32) (n : Nat) (p : Nat) (fk : Nat) (fp : Nat) (t : Nat → Nat) (k : Nat) (c : Nat) (f : Nat → Int32) (o : Nat → Int32) (bt : Nat) (bk : Nat → Int32) (bn : Nat → Int32) (ln : Nat) (ks : Bool) (la : Nat) (nx : Nat) (py : Nat) (fi : Bool) (rb : Nat → Nat) (de : Nat → Int32) (wt : Nat) (wk : Nat → Int32) (wn : Nat → Int32) (s : Int32) (ou : Nat → List Nat) (hsk : ∀ j, sk j ≤ np) (hsc : ∀ j, 2 * sc j ≤ no) (hnp : np ≤ 4096) (hno : no ≤ 8192) (hdg : dg ≤ 3) (hR : ∀ j, j < 4 → ¬ sk j = 0 → ∀ bk bn, ∃ nx9 py9 fi9 bt9 bk9 bn9, wRn dg (sk j) (sf j) (sc j) (so j) (2 * sk j + sc j) (([] : List Nat), 0, 0, true, 0, upd bk 0 (nI 0), upd bn 0 (nI 1)) (ou j, nx9, py9, fi9, bt9, bk9, bn9)) : YC l G y_W_write k_W_write 3 (Option.some FieldType.int) 8 174 [.ref (h 0), .int s] (wW G h np no dg tl sk sc sf so n p fk fp t k c f o bt bk bn ln ks la nx py fi rb de wt wk wn) (fun v w => ∃ j x1 x2 x3 x4 x5 x6 x7, j < 4 ∧ s = nI j ∧ ¬ sk j = 0 ∧ (ou j).length ≤ 131072 ∧ v = some (.int (nI (ou j).length)) ∧ w = wW G h np no dg tl sk sc sf so n p fk fp t k c f o bt bk bn ((ou j).length) true ((ou j).length) x1 x2 x3 (wrB rb (ou j)) x4 x5 x6 x7) (fun E w => ((s < 0 ∨ nI 4 ≤ s) ∧ E = "java/lang/IndexOutOfBoundsException" ∧ w = wW G h np no dg tl sk sc sf so n p fk fp t k c f o bt bk bn ln ks la nx py fi rb de wt wk wn) ∨ (∃ j, j < 4 ∧ s = nI j ∧ sk j = 0 ∧ E = "java/lang/IllegalStateException" ∧ w = wW G h np no dg tl sk sc sf so n p fk fp t k c f o bt bk bn ln ks la nx py fi rb de wt wk wn) ∨ ∃ j x1 x2 x3 x4 x5 x6 x7, j < 4 ∧ s = nI j ∧ ¬ sk j = 0 ∧ 131072 < (ou j).length ∧ E = "java/lang/UnsupportedOperationException" ∧ w = wW G h np no dg tl sk sc sf so n p fk fp t k c f o bt bk bn ln false ((ou j).length) x1 x2 x3 rb x4 x5 x6 x7) := by
  refine yc_of (by decide) ?_
  intro pg ev sx mm bl mt cd A C0 hP hD
  obtain ⟨hx, hb, hrt, hml, hown, hg, hlocks, hxt, hE, hK, hA, hmn⟩ := C0
  have hS : va_S A sx.heap sx.heap [] := va_S.rf
  have hl := lv_entry ([.ref (h 0), .int s]) (n := 3) (Nat.le_of_ble_eq_true rfl)
  rw [lg_entry_eq]
  generalize (lg_sl ([.ref (h 0), .int s]) ++ List.replicate (3 - (lg_sl ([.ref (h 0), .int s])).length) Slot.unset).toArray = ls at hl ⊢
  have hl : lv_has ls 3 [(0, .ref (h 0)), (1, .int s)] := hl
  obtain ⟨H, hH⟩ : ∃ H, H = sx.heap := ⟨_, rfl⟩
  rw [← hH] at hP
  have hS : va_S A sx.heap H [] := by rw [hH]; exact hS
  suffices h9 : W pg l ev (yR 8 174) sx mm _ bl mt cd H [] 0 0 (yMQ bl G A _ _ _ _ sx) (F0 mm 0 ls []) by rw [hH] at h9; exact h9
  obtain ⟨locs, hlo⟩ : ∃ locs : List Loc, locs = [] := ⟨_, rfl⟩
  rw [← hlo] at hS ⊢
  refine lv_aload_n hx hb d_W_write_0 rfl (lv_at hl 0 rfl) ?_
  refine lv_iload_n hx hb d_W_write_1 rfl (lv_at hl 1 rfl) ?_
  refine y_callW (y_runV (As := [.int s]) (rest := []) hx hb hml hown (c_W_shapeIn hlt G h np no dg tl sk sc sf so n p fk fp t k c f o bt bk bn ln ks la nx py fi rb de wt wk wn s ) (gV (n := 1) hg tk_295 tk_297 (gt_s 2 (by decide +kernel) (by decide +kernel)) tk_1 tk_298 (by decide +kernel) ⟨Nat.le_of_ble_eq_true rfl, Nat.le_of_ble_eq_true rfl⟩) (va_recv hK hP (ci := 4) (q0 := 0) rfl rfl) (y_preW hE hK hP hD hS hA) rfl rfl hl.1 rfl (lv_room (Nat.le_of_ble_eq_true rfl)) d_W_write_2 ⟨Nat.le_of_ble_eq_true rfl, Nat.le_of_ble_eq_true rfl⟩) hD hS hA (fun E9 w9 qx cx H locs hp hlw hP hD hS hq1 hq2 hq3 => ?_) (fun v9 w9 H locs hp hlw hP hD hS => ?_)
  · skip
    obtain ⟨hc_2, rfl, rfl⟩ := hp
    have hP : va_P (gD G) vwC (wW G h np no dg tl sk sc sf so n p fk fp t k c f o bt bk bn ln ks la nx py fi rb de wt wk wn) H := hP
    have hD : va_D A (wW G h np no dg tl sk sc sf so n p fk fp t k c f o bt bk bn ln ks la nx py fi rb de wt wk wn) := hD
    exact y_out (ws := wW G h np no dg tl sk sc sf so n p fk fp t k c f o bt bk bn ln ks la nx py fi rb de wt wk wn) hxt hlocks hq1 hq2 hq3 (Or.inl ⟨hc_2, rfl, rfl⟩) rfl hK hP hD hS
  obtain ⟨j_2, hj_2, rfl, rfl, rfl⟩ := hp
  have hP : va_P (gD G) vwC (wW G h np no dg tl sk sc sf so n p fk fp t k c f o bt bk bn ln ks la nx py fi rb de wt wk wn) H := hP
  have hD : va_D A (wW G h np no dg tl sk sc sf so n p fk fp t k c f o bt bk bn ln ks la nx py fi rb de wt wk wn) := hD
  refine W.eq (g2 := F0 mm 5 ls [.ref (h (2 + 3 * j_2))]) rfl ?_
  rcases (show j_2 = 0 ∨ j_2 = 1 ∨ j_2 = 2 ∨ j_2 = 3 by omega) with rfl | rfl | rfl | rfl
  · skip
    refine lv_astore_n (lv' := [(2, .ref (h 2)), (0, .ref (h 0)), (1, .int (nI 0))]) hx hb d_W_write_5 rfl hl (by decide) rfl (fun ls hl => ?_)
    have hsk9 := hsk 0
    have hsc9 := hsc 0
    refine lv_aload_n hx hb d_W_write_6 rfl (lv_at hl 0 rfl) ?_
    refine y_call (y_runV (As := []) (rest := []) hx hb hml hown (c_S_isNone l G (fun i => h (i + 2)) np no (sk 0) (sc 0) (sf 0) (so 0)  (by omega)) (gV (n := 0) hg tk_557 tk_558 tk_559 tk_3 tk_560 (by decide +kernel) ⟨Nat.le_of_ble_eq_true rfl, Nat.le_of_ble_eq_true rfl⟩) (va_recv hK hP (ci := 2) (q0 := 2) rfl rfl) (y_pre hE hK hP hD hS hA [2, 3, 4] rfl rfl) rfl rfl hl.1 rfl (lv_room (Nat.le_of_ble_eq_true rfl)) d_W_write_7 ⟨Nat.le_of_ble_eq_true rfl, Nat.le_of_ble_eq_true rfl⟩) hP hD hS hA [2, 3, 4] rfl (fun _ _ _ _ _ _ hp => False.elim hp) (fun v9 w9 H locs hp hlw hP hD hS => ?_)
    obtain ⟨rfl, rfl⟩ := hp
    have hP : va_P (gD G) vwC (wW G h np no dg tl sk sc sf so n p fk fp t k c f o bt bk bn ln ks la nx py fi rb de wt wk wn) H := hP
    have hD : va_D A (wW G h np no dg tl sk sc sf so n p fk fp t k c f o bt bk bn ln ks la nx py fi rb de wt wk wn) := hD
    refine W.eq (g2 := F0 mm 10 ls [.int (bz (decide ((sk 0) = 0)))]) rfl ?_
    refine yz_if_eq (P := (sk 0) = 0) (tgt := 23) hx hb d_W_write_10 (by decide) (fun c10 => ?_) (fun c10 => ?_)
    · skip
      refine lv_aload_n hx hb d_W_write_23 rfl (lv_at hl 1 rfl) ?_
      refine va_get (D := gD G) (ci := 4) (v := .ref (h 22)) (C := "WordShapes") (T := TW) (N := 5) hx hb hg iw_W hown hK hP 0 rfl rfl 3 (by decide) (hg _ tk_158) (fun _ h9 => h9) rfl d_W_write_24 ?_
      refine lv_aload_n hx hb d_W_write_27 rfl (lv_at hl 0 rfl) ?_
      obtain ⟨a1, b1, c1, d1, e1, f1, hr1⟩ := hR 0 (by decide) c10 wk wn
      refine lv_iconst (v := nI 0) hx hb d_W_write_28 (by decide) ?_
      refine y_call (y_runV (As := [.ref (h 2), .int (nI 0)]) (rest := []) hx hb hml hown (c_T_lay l G (fun i => h (i + 22)) dg ln ks la nx py fi (fun i => sb_b (rb i)) de wt wk wn (fun i => h (i + 2)) np no (sk 0) (sc 0) (sf 0) (so 0) false (ou 0) a1 b1 c1 d1 e1 f1 (by omega) (by omega) (by omega) (by omega) (by omega) (hr1)) (gV (n := 2) hg tk_562 tk_563 tk_564 tk_6 tk_565 (by decide +kernel) ⟨Nat.le_of_ble_eq_true rfl, Nat.le_of_ble_eq_true rfl⟩) (va_recv hK hP (ci := 3) (q0 := 22) rfl rfl) (y_pre hE hK hP hD hS hA [22, 23, 24, 25, 26, 27, 2, 3, 4] rfl rfl) rfl rfl hl.1 rfl (lv_room (Nat.le_of_ble_eq_true rfl)) d_W_write_29 ⟨Nat.le_of_ble_eq_true rfl, Nat.le_of_ble_eq_true rfl⟩) hP hD hS hA [22, 23, 24, 25, 26, 27, 2, 3, 4] rfl (fun _ _ _ _ _ _ hp => False.elim hp) (fun v9 w9 H locs hp hlw hP hD hS => ?_)
      obtain ⟨de9_29, hlen_29, rfl, rfl⟩ := hp
      rw [wrF_f] at hP hD
      have hP : va_P (gD G) vwC (wW G h np no dg tl sk sc sf so n p fk fp t k c f o bt bk bn ln false ((ou 0).length) a1 b1 c1 rb de9_29 d1 e1 f1) H := hP
      have hD : va_D A (wW G h np no dg tl sk sc sf so n p fk fp t k c f o bt bk bn ln false ((ou 0).length) a1 b1 c1 rb de9_29 d1 e1 f1) := hD
      refine W.eq (g2 := F0 mm 32 ls [.int (nI ((ou 0).length))]) rfl ?_
      refine lv_ldc (v := nI 131072) hx hb hown (hg _ tk_612) d_W_write_32 ?_
      refine yn_icmp_le (a := (ou 0).length) (b := 131072) (tgt := 47) hx hb d_W_write_34 (by decide) (by omega) (by omega) (fun c34 => ?_) (fun c34 => ?_)
      · skip
        refine lv_aload_n hx hb d_W_write_47 rfl (lv_at hl 1 rfl) ?_
        refine va_get (D := gD G) (ci := 4) (v := .ref (h 22)) (C := "WordShapes") (T := TW) (N := 5) hx hb hg iw_W hown hK hP 0 rfl rfl 3 (by decide) (hg _ tk_158) (fun _ h9 => h9) rfl d_W_write_48 ?_
        refine lv_aload_n hx hb d_W_write_51 rfl (lv_at hl 1 rfl) ?_
        refine va_get (D := gD G) (ci := 4) (v := .ref (h 22)) (C := "WordShapes") (T := TW) (N := 5) hx hb hg iw_W hown hK hP 0 rfl rfl 3 (by decide) (hg _ tk_158) (fun _ h9 => h9) rfl d_W_write_52 ?_
        refine lv_aload_n hx hb d_W_write_55 rfl (lv_at hl 0 rfl) ?_
        obtain ⟨a2, b2, c2, d2, e2, f2, hr2⟩ := hR 0 (by decide) c10 e1 f1
        refine lv_iconst (v := nI 1) hx hb d_W_write_56 (by decide) ?_
        refine y_call (y_runV (As := [.ref (h 2), .int (nI 1)]) (rest := [.ref (h 22)]) hx hb hml hown (c_T_lay l G (fun i => h (i + 22)) dg ln false ((ou 0).length) a1 b1 c1 (fun i => sb_b (rb i)) de9_29 d1 e1 f1 (fun i => h (i + 2)) np no (sk 0) (sc 0) (sf 0) (so 0) true (ou 0) a2 b2 c2 d2 e2 f2 (by omega) (by omega) (by omega) (by omega) (by omega) (hr2)) (gV (n := 2) hg tk_562 tk_563 tk_564 tk_6 tk_565 (by decide +kernel) ⟨Nat.le_of_ble_eq_true rfl, Nat.le_of_ble_eq_true rfl⟩) (va_recv hK hP (ci := 3) (q0 := 22) rfl rfl) (y_pre hE hK hP hD hS hA [22, 23, 24, 25, 26, 27, 2, 3, 4] rfl rfl) rfl rfl hl.1 rfl (lv_room (Nat.le_of_ble_eq_true rfl)) d_W_write_57 ⟨Nat.le_of_ble_eq_true rfl, Nat.le_of_ble_eq_true rfl⟩) hP hD hS hA [22, 23, 24, 25, 26, 27, 2, 3, 4] rfl (fun _ _ _ _ _ _ hp => False.elim hp) (fun v9 w9 H locs hp hlw hP hD hS => ?_)
        obtain ⟨de9_57, hlen_57, rfl, rfl⟩ := hp
        rw [wrF_t] at hP hD
        have hP : va_P (gD G) vwC (wW G h np no dg tl sk sc sf so n p fk fp t k c f o bt bk bn ln true ((ou 0).length) a2 b2 c2 (wrB rb (ou 0)) de9_57 d2 e2 f2) H := hP
        have hD : va_D A (wW G h np no dg tl sk sc sf so n p fk fp t k c f o bt bk bn ln true ((ou 0).length) a2 b2 c2 (wrB rb (ou 0)) de9_57 d2 e2 f2) := hD
        refine W.eq (g2 := F0 mm 60 ls [.int (nI ((ou 0).length)), .ref (h 22)]) rfl ?_
        refine va_putN (D := gD G) (ci := 3) (v := .int (nI ((ou 0).length))) (ty := .int) (C := "WordShapes$Writer") (T := TT) (N := 10) hx hb hg iw_T ft_T fo_T nm_T hown hK hP hD hS 22 rfl rfl 4 (by decide) (va_Nw.use rfl (nw_128 hE.1)) (fun _ h9 => h9) rfl (by decide +kernel) (rfl) (rfl) (Nat.le_of_ble_eq_true rfl) d_W_write_60 (fun H locs hP hD hS => ?_)
        have hP : va_P (gD G) vwC (wW G h np no dg tl sk sc sf so n p fk fp t k c f o bt bk bn ((ou 0).length) true ((ou 0).length) a2 b2 c2 (wrB rb (ou 0)) de9_57 d2 e2 f2) H := hP
        have hD : va_D A (wW G h np no dg tl sk sc sf so n p fk fp t k c f o bt bk bn ((ou 0).length) true ((ou 0).length) a2 b2 c2 (wrB rb (ou 0)) de9_57 d2 e2 f2) := hD
        refine lv_aload_n hx hb d_W_write_63 rfl (lv_at hl 1 rfl) ?_
        refine va_get (D := gD G) (ci := 4) (v := .ref (h 22)) (C := "WordShapes") (T := TW) (N := 5) hx hb hg iw_W hown hK hP 0 rfl rfl 3 (by decide) (hg _ tk_158) (fun _ h9 => h9) rfl d_W_write_64 ?_
        refine va_getN (D := gD G) (ci := 3) (v := .int (nI ((ou 0).length))) (C := "WordShapes$Writer") (T := TT) (N := 10) hx hb hg iw_T hown hK hP 22 rfl rfl 4 (by decide) (va_Nw.use rfl (nw_128 hE.1)) (fun _ h9 => h9) rfl d_W_write_67 ?_
        exact yr_i (ws := wW G h np no dg tl sk sc sf so n p fk fp t k c f o bt bk bn ((ou 0).length) true ((ou 0).length) a2 b2 c2 (wrB rb (ou 0)) de9_57 d2 e2 f2) hx hb hrt hlocks (⟨_, _, _, _, _, _, _, _, by decide, rfl, c10, c34, rfl, rfl⟩) rfl hK hP hD hS d_W_write_70
      · skip
        exact yt_S (ws := wW G h np no dg tl sk sc sf so n p fk fp t k c f o bt bk bn ln false ((ou 0).length) a1 b1 c1 rb de9_29 d1 e1 f1) hx hb hlt hown xo_W_116_120 (nw_615 hE.1) (sr_622 hE.2.1) hg hE hK hP hD hS hA hml hl.1 hxt hlocks d_W_write_37 d_W_write_40 d_W_write_41 d_W_write_43 d_W_write_46 (by decide) (by decide) (Or.inr (Or.inr ⟨_, _, _, _, _, _, _, _, by decide, rfl, c10, c34, rfl, rfl⟩)) rfl
    · skip
      exact yt_S (ws := wW G h np no dg tl sk sc sf so n p fk fp t k c f o bt bk bn ln ks la nx py fi rb de wt wk wn) hx hb hlt hown xo_W_55_59 (nw_192 hE.1) (sr_561 hE.2.1) hg hE hK hP hD hS hA hml hl.1 hxt hlocks d_W_write_13 d_W_write_16 d_W_write_17 d_W_write_19 d_W_write_22 (by decide) (by decide) (Or.inr (Or.inl ⟨_, by decide, rfl, c10, rfl, rfl⟩)) rfl
  · skip
    refine lv_astore_n (lv' := [(2, .ref (h 5)), (0, .ref (h 0)), (1, .int (nI 1))]) hx hb d_W_write_5 rfl hl (by decide) rfl (fun ls hl => ?_)
    have hsk9 := hsk 1
    have hsc9 := hsc 1
    refine lv_aload_n hx hb d_W_write_6 rfl (lv_at hl 0 rfl) ?_
    refine y_call (y_runV (As := []) (rest := []) hx hb hml hown (c_S_isNone l G (fun i => h (i + 5)) np no (sk 1) (sc 1) (sf 1) (so 1)  (by omega)) (gV (n := 0) hg tk_557 tk_558 tk_559 tk_3 tk_560 (by decide +kernel) ⟨Nat.le_of_ble_eq_true rfl, Nat.le_of_ble_eq_true rfl⟩) (va_recv hK hP (ci := 2) (q0 := 5) rfl rfl) (y_pre hE hK hP hD hS hA [5, 6, 7] rfl rfl) rfl rfl hl.1 rfl (lv_room (Nat.le_of_ble_eq_true rfl)) d_W_write_7 ⟨Nat.le_of_ble_eq_true rfl, Nat.le_of_ble_eq_true rfl⟩) hP hD hS hA [5, 6, 7] rfl (fun _ _ _ _ _ _ hp => False.elim hp) (fun v9 w9 H locs hp hlw hP hD hS => ?_)
    obtain ⟨rfl, rfl⟩ := hp
    have hP : va_P (gD G) vwC (wW G h np no dg tl sk sc sf so n p fk fp t k c f o bt bk bn ln ks la nx py fi rb de wt wk wn) H := hP
    have hD : va_D A (wW G h np no dg tl sk sc sf so n p fk fp t k c f o bt bk bn ln ks la nx py fi rb de wt wk wn) := hD
    refine W.eq (g2 := F0 mm 10 ls [.int (bz (decide ((sk 1) = 0)))]) rfl ?_
    refine yz_if_eq (P := (sk 1) = 0) (tgt := 23) hx hb d_W_write_10 (by decide) (fun c10 => ?_) (fun c10 => ?_)
    · skip
      refine lv_aload_n hx hb d_W_write_23 rfl (lv_at hl 1 rfl) ?_
      refine va_get (D := gD G) (ci := 4) (v := .ref (h 22)) (C := "WordShapes") (T := TW) (N := 5) hx hb hg iw_W hown hK hP 0 rfl rfl 3 (by decide) (hg _ tk_158) (fun _ h9 => h9) rfl d_W_write_24 ?_
      refine lv_aload_n hx hb d_W_write_27 rfl (lv_at hl 0 rfl) ?_
      obtain ⟨a1, b1, c1, d1, e1, f1, hr1⟩ := hR 1 (by decide) c10 wk wn
      refine lv_iconst (v := nI 0) hx hb d_W_write_28 (by decide) ?_
      refine y_call (y_runV (As := [.ref (h 5), .int (nI 0)]) (rest := []) hx hb hml hown (c_T_lay l G (fun i => h (i + 22)) dg ln ks la nx py fi (fun i => sb_b (rb i)) de wt wk wn (fun i => h (i + 5)) np no (sk 1) (sc 1) (sf 1) (so 1) false (ou 1) a1 b1 c1 d1 e1 f1 (by omega) (by omega) (by omega) (by omega) (by omega) (hr1)) (gV (n := 2) hg tk_562 tk_563 tk_564 tk_6 tk_565 (by decide +kernel) ⟨Nat.le_of_ble_eq_true rfl, Nat.le_of_ble_eq_true rfl⟩) (va_recv hK hP (ci := 3) (q0 := 22) rfl rfl) (y_pre hE hK hP hD hS hA [22, 23, 24, 25, 26, 27, 5, 6, 7] rfl rfl) rfl rfl hl.1 rfl (lv_room (Nat.le_of_ble_eq_true rfl)) d_W_write_29 ⟨Nat.le_of_ble_eq_true rfl, Nat.le_of_ble_eq_true rfl⟩) hP hD hS hA [22, 23, 24, 25, 26, 27, 5, 6, 7] rfl (fun _ _ _ _ _ _ hp => False.elim hp) (fun v9 w9 H locs hp hlw hP hD hS => ?_)
      obtain ⟨de9_29, hlen_29, rfl, rfl⟩ := hp
      rw [wrF_f] at hP hD
      have hP : va_P (gD G) vwC (wW G h np no dg tl sk sc sf so n p fk fp t k c f o bt bk bn ln false ((ou 1).length) a1 b1 c1 rb de9_29 d1 e1 f1) H := hP
      have hD : va_D A (wW G h np no dg tl sk sc sf so n p fk fp t k c f o bt bk bn ln false ((ou 1).length) a1 b1 c1 rb de9_29 d1 e1 f1) := hD
      refine W.eq (g2 := F0 mm 32 ls [.int (nI ((ou 1).length))]) rfl ?_
      refine lv_ldc (v := nI 131072) hx hb hown (hg _ tk_612) d_W_write_32 ?_
      refine yn_icmp_le (a := (ou 1).length) (b := 131072) (tgt := 47) hx hb d_W_write_34 (by decide) (by omega) (by omega) (fun c34 => ?_) (fun c34 => ?_)
      · skip
        refine lv_aload_n hx hb d_W_write_47 rfl (lv_at hl 1 rfl) ?_
        refine va_get (D := gD G) (ci := 4) (v := .ref (h 22)) (C := "WordShapes") (T := TW) (N := 5) hx hb hg iw_W hown hK hP 0 rfl rfl 3 (by decide) (hg _ tk_158) (fun _ h9 => h9) rfl d_W_write_48 ?_
        refine lv_aload_n hx hb d_W_write_51 rfl (lv_at hl 1 rfl) ?_
        refine va_get (D := gD G) (ci := 4) (v := .ref (h 22)) (C := "WordShapes") (T := TW) (N := 5) hx hb hg iw_W hown hK hP 0 rfl rfl 3 (by decide) (hg _ tk_158) (fun _ h9 => h9) rfl d_W_write_52 ?_
        refine lv_aload_n hx hb d_W_write_55 rfl (lv_at hl 0 rfl) ?_
        obtain ⟨a2, b2, c2, d2, e2, f2, hr2⟩ := hR 1 (by decide) c10 e1 f1
        refine lv_iconst (v := nI 1) hx hb d_W_write_56 (by decide) ?_
        refine y_call (y_runV (As := [.ref (h 5), .int (nI 1)]) (rest := [.ref (h 22)]) hx hb hml hown (c_T_lay l G (fun i => h (i + 22)) dg ln false ((ou 1).length) a1 b1 c1 (fun i => sb_b (rb i)) de9_29 d1 e1 f1 (fun i => h (i + 5)) np no (sk 1) (sc 1) (sf 1) (so 1) true (ou 1) a2 b2 c2 d2 e2 f2 (by omega) (by omega) (by omega) (by omega) (by omega) (hr2)) (gV (n := 2) hg tk_562 tk_563 tk_564 tk_6 tk_565 (by decide +kernel) ⟨Nat.le_of_ble_eq_true rfl, Nat.le_of_ble_eq_true rfl⟩) (va_recv hK hP (ci := 3) (q0 := 22) rfl rfl) (y_pre hE hK hP hD hS hA [22, 23, 24, 25, 26, 27, 5, 6, 7] rfl rfl) rfl rfl hl.1 rfl (lv_room (Nat.le_of_ble_eq_true rfl)) d_W_write_57 ⟨Nat.le_of_ble_eq_true rfl, Nat.le_of_ble_eq_true rfl⟩) hP hD hS hA [22, 23, 24, 25, 26, 27, 5, 6, 7] rfl (fun _ _ _ _ _ _ hp => False.elim hp) (fun v9 w9 H locs hp hlw hP hD hS => ?_)
        obtain ⟨de9_57, hlen_57, rfl, rfl⟩ := hp
        rw [wrF_t] at hP hD
        have hP : va_P (gD G) vwC (wW G h np no dg tl sk sc sf so n p fk fp t k c f o bt bk bn ln true ((ou 1).length) a2 b2 c2 (wrB rb (ou 1)) de9_57 d2 e2 f2) H := hP
        have hD : va_D A (wW G h np no dg tl sk sc sf so n p fk fp t k c f o bt bk bn ln true ((ou 1).length) a2 b2 c2 (wrB rb (ou 1)) de9_57 d2 e2 f2) := hD
        refine W.eq (g2 := F0 mm 60 ls [.int (nI ((ou 1).length)), .ref (h 22)]) rfl ?_
        refine va_putN (D := gD G) (ci := 3) (v := .int (nI ((ou 1).length))) (ty := .int) (C := "WordShapes$Writer") (T := TT) (N := 10) hx hb hg iw_T ft_T fo_T nm_T hown hK hP hD hS 22 rfl rfl 4 (by decide) (va_Nw.use rfl (nw_128 hE.1)) (fun _ h9 => h9) rfl (by decide +kernel) (rfl) (rfl) (Nat.le_of_ble_eq_true rfl) d_W_write_60 (fun H locs hP hD hS => ?_)
        have hP : va_P (gD G) vwC (wW G h np no dg tl sk sc sf so n p fk fp t k c f o bt bk bn ((ou 1).length) true ((ou 1).length) a2 b2 c2 (wrB rb (ou 1)) de9_57 d2 e2 f2) H := hP
        have hD : va_D A (wW G h np no dg tl sk sc sf so n p fk fp t k c f o bt bk bn ((ou 1).length) true ((ou 1).length) a2 b2 c2 (wrB rb (ou 1)) de9_57 d2 e2 f2) := hD
        refine lv_aload_n hx hb d_W_write_63 rfl (lv_at hl 1 rfl) ?_
        refine va_get (D := gD G) (ci := 4) (v := .ref (h 22)) (C := "WordShapes") (T := TW) (N := 5) hx hb hg iw_W hown hK hP 0 rfl rfl 3 (by decide) (hg _ tk_158) (fun _ h9 => h9) rfl d_W_write_64 ?_
        refine va_getN (D := gD G) (ci := 3) (v := .int (nI ((ou 1).length))) (C := "WordShapes$Writer") (T := TT) (N := 10) hx hb hg iw_T hown hK hP 22 rfl rfl 4 (by decide) (va_Nw.use rfl (nw_128 hE.1)) (fun _ h9 => h9) rfl d_W_write_67 ?_
        exact yr_i (ws := wW G h np no dg tl sk sc sf so n p fk fp t k c f o bt bk bn ((ou 1).length) true ((ou 1).length) a2 b2 c2 (wrB rb (ou 1)) de9_57 d2 e2 f2) hx hb hrt hlocks (⟨_, _, _, _, _, _, _, _, by decide, rfl, c10, c34, rfl, rfl⟩) rfl hK hP hD hS d_W_write_70
      · skip
        exact yt_S (ws := wW G h np no dg tl sk sc sf so n p fk fp t k c f o bt bk bn ln false ((ou 1).length) a1 b1 c1 rb de9_29 d1 e1 f1) hx hb hlt hown xo_W_116_120 (nw_615 hE.1) (sr_622 hE.2.1) hg hE hK hP hD hS hA hml hl.1 hxt hlocks d_W_write_37 d_W_write_40 d_W_write_41 d_W_write_43 d_W_write_46 (by decide) (by decide) (Or.inr (Or.inr ⟨_, _, _, _, _, _, _, _, by decide, rfl, c10, c34, rfl, rfl⟩)) rfl
    · skip
      exact yt_S (ws := wW G h np no dg tl sk sc sf so n p fk fp t k c f o bt bk bn ln ks la nx py fi rb de wt wk wn) hx hb hlt hown xo_W_55_59 (nw_192 hE.1) (sr_561 hE.2.1) hg hE hK hP hD hS hA hml hl.1 hxt hlocks d_W_write_13 d_W_write_16 d_W_write_17 d_W_write_19 d_W_write_22 (by decide) (by decide) (Or.inr (Or.inl ⟨_, by decide, rfl, c10, rfl, rfl⟩)) rfl
  · skip
    refine lv_astore_n (lv' := [(2, .ref (h 8)), (0, .ref (h 0)), (1, .int (nI 2))]) hx hb d_W_write_5 rfl hl (by decide) rfl (fun ls hl => ?_)
    have hsk9 := hsk 2
    have hsc9 := hsc 2
    refine lv_aload_n hx hb d_W_write_6 rfl (lv_at hl 0 rfl) ?_
    refine y_call (y_runV (As := []) (rest := []) hx hb hml hown (c_S_isNone l G (fun i => h (i + 8)) np no (sk 2) (sc 2) (sf 2) (so 2)  (by omega)) (gV (n := 0) hg tk_557 tk_558 tk_559 tk_3 tk_560 (by decide +kernel) ⟨Nat.le_of_ble_eq_true rfl, Nat.le_of_ble_eq_true rfl⟩) (va_recv hK hP (ci := 2) (q0 := 8) rfl rfl) (y_pre hE hK hP hD hS hA [8, 9, 10] rfl rfl) rfl rfl hl.1 rfl (lv_room (Nat.le_of_ble_eq_true rfl)) d_W_write_7 ⟨Nat.le_of_ble_eq_true rfl, Nat.le_of_ble_eq_true rfl⟩) hP hD hS hA [8, 9, 10] rfl (fun _ _ _ _ _ _ hp => False.elim hp) (fun v9 w9 H locs hp hlw hP hD hS => ?_)
    obtain ⟨rfl, rfl⟩ := hp
    have hP : va_P (gD G) vwC (wW G h np no dg tl sk sc sf so n p fk fp t k c f o bt bk bn ln ks la nx py fi rb de wt wk wn) H := hP
    have hD : va_D A (wW G h np no dg tl sk sc sf so n p fk fp t k c f o bt bk bn ln ks la nx py fi rb de wt wk wn) := hD
    refine W.eq (g2 := F0 mm 10 ls [.int (bz (decide ((sk 2) = 0)))]) rfl ?_
    refine yz_if_eq (P := (sk 2) = 0) (tgt := 23) hx hb d_W_write_10 (by decide) (fun c10 => ?_) (fun c10 => ?_)
    · skip
      refine lv_aload_n hx hb d_W_write_23 rfl (lv_at hl 1 rfl) ?_
      refine va_get (D := gD G) (ci := 4) (v := .ref (h 22)) (C := "WordShapes") (T := TW) (N := 5) hx hb hg iw_W hown hK hP 0 rfl rfl 3 (by decide) (hg _ tk_158) (fun _ h9 => h9) rfl d_W_write_24 ?_
      refine lv_aload_n hx hb d_W_write_27 rfl (lv_at hl 0 rfl) ?_
      obtain ⟨a1, b1, c1, d1, e1, f1, hr1⟩ := hR 2 (by decide) c10 wk wn
      refine lv_iconst (v := nI 0) hx hb d_W_write_28 (by decide) ?_
      refine y_call (y_runV (As := [.ref (h 8), .int (nI 0)]) (rest := []) hx hb hml hown (c_T_lay l G (fun i => h (i + 22)) dg ln ks la nx py fi (fun i => sb_b (rb i)) de wt wk wn (fun i => h (i + 8)) np no (sk 2) (sc 2) (sf 2) (so 2) false (ou 2) a1 b1 c1 d1 e1 f1 (by omega) (by omega) (by omega) (by omega) (by omega) (hr1)) (gV (n := 2) hg tk_562 tk_563 tk_564 tk_6 tk_565 (by decide +kernel) ⟨Nat.le_of_ble_eq_true rfl, Nat.le_of_ble_eq_true rfl⟩) (va_recv hK hP (ci := 3) (q0 := 22) rfl rfl) (y_pre hE hK hP hD hS hA [22, 23, 24, 25, 26, 27, 8, 9, 10] rfl rfl) rfl rfl hl.1 rfl (lv_room (Nat.le_of_ble_eq_true rfl)) d_W_write_29 ⟨Nat.le_of_ble_eq_true rfl, Nat.le_of_ble_eq_true rfl⟩) hP hD hS hA [22, 23, 24, 25, 26, 27, 8, 9, 10] rfl (fun _ _ _ _ _ _ hp => False.elim hp) (fun v9 w9 H locs hp hlw hP hD hS => ?_)
      obtain ⟨de9_29, hlen_29, rfl, rfl⟩ := hp
      rw [wrF_f] at hP hD
      have hP : va_P (gD G) vwC (wW G h np no dg tl sk sc sf so n p fk fp t k c f o bt bk bn ln false ((ou 2).length) a1 b1 c1 rb de9_29 d1 e1 f1) H := hP
      have hD : va_D A (wW G h np no dg tl sk sc sf so n p fk fp t k c f o bt bk bn ln false ((ou 2).length) a1 b1 c1 rb de9_29 d1 e1 f1) := hD
      refine W.eq (g2 := F0 mm 32 ls [.int (nI ((ou 2).length))]) rfl ?_
      refine lv_ldc (v := nI 131072) hx hb hown (hg _ tk_612) d_W_write_32 ?_
      refine yn_icmp_le (a := (ou 2).length) (b := 131072) (tgt := 47) hx hb d_W_write_34 (by decide) (by omega) (by omega) (fun c34 => ?_) (fun c34 => ?_)
      · skip
        refine lv_aload_n hx hb d_W_write_47 rfl (lv_at hl 1 rfl) ?_
        refine va_get (D := gD G) (ci := 4) (v := .ref (h 22)) (C := "WordShapes") (T := TW) (N := 5) hx hb hg iw_W hown hK hP 0 rfl rfl 3 (by decide) (hg _ tk_158) (fun _ h9 => h9) rfl d_W_write_48 ?_
        refine lv_aload_n hx hb d_W_write_51 rfl (lv_at hl 1 rfl) ?_
        refine va_get (D := gD G) (ci := 4) (v := .ref (h 22)) (C := "WordShapes") (T := TW) (N := 5) hx hb hg iw_W hown hK hP 0 rfl rfl 3 (by decide) (hg _ tk_158) (fun _ h9 => h9) rfl d_W_write_52 ?_
        refine lv_aload_n hx hb d_W_write_55 rfl (lv_at hl 0 rfl) ?_
        obtain ⟨a2, b2, c2, d2, e2, f2, hr2⟩ := hR 2 (by decide) c10 e1 f1
        refine lv_iconst (v := nI 1) hx hb d_W_write_56 (by decide) ?_
        refine y_call (y_runV (As := [.ref (h 8), .int (nI 1)]) (rest := [.ref (h 22)]) hx hb hml hown (c_T_lay l G (fun i => h (i + 22)) dg ln false ((ou 2).length) a1 b1 c1 (fun i => sb_b (rb i)) de9_29 d1 e1 f1 (fun i => h (i + 8)) np no (sk 2) (sc 2) (sf 2) (so 2) true (ou 2) a2 b2 c2 d2 e2 f2 (by omega) (by omega) (by omega) (by omega) (by omega) (hr2)) (gV (n := 2) hg tk_562 tk_563 tk_564 tk_6 tk_565 (by decide +kernel) ⟨Nat.le_of_ble_eq_true rfl, Nat.le_of_ble_eq_true rfl⟩) (va_recv hK hP (ci := 3) (q0 := 22) rfl rfl) (y_pre hE hK hP hD hS hA [22, 23, 24, 25, 26, 27, 8, 9, 10] rfl rfl) rfl rfl hl.1 rfl (lv_room (Nat.le_of_ble_eq_true rfl)) d_W_write_57 ⟨Nat.le_of_ble_eq_true rfl, Nat.le_of_ble_eq_true rfl⟩) hP hD hS hA [22, 23, 24, 25, 26, 27, 8, 9, 10] rfl (fun _ _ _ _ _ _ hp => False.elim hp) (fun v9 w9 H locs hp hlw hP hD hS => ?_)
        obtain ⟨de9_57, hlen_57, rfl, rfl⟩ := hp
        rw [wrF_t] at hP hD
        have hP : va_P (gD G) vwC (wW G h np no dg tl sk sc sf so n p fk fp t k c f o bt bk bn ln true ((ou 2).length) a2 b2 c2 (wrB rb (ou 2)) de9_57 d2 e2 f2) H := hP
        have hD : va_D A (wW G h np no dg tl sk sc sf so n p fk fp t k c f o bt bk bn ln true ((ou 2).length) a2 b2 c2 (wrB rb (ou 2)) de9_57 d2 e2 f2) := hD
        refine W.eq (g2 := F0 mm 60 ls [.int (nI ((ou 2).length)), .ref (h 22)]) rfl ?_
        refine va_putN (D := gD G) (ci := 3) (v := .int (nI ((ou 2).length))) (ty := .int) (C := "WordShapes$Writer") (T := TT) (N := 10) hx hb hg iw_T ft_T fo_T nm_T hown hK hP hD hS 22 rfl rfl 4 (by decide) (va_Nw.use rfl (nw_128 hE.1)) (fun _ h9 => h9) rfl (by decide +kernel) (rfl) (rfl) (Nat.le_of_ble_eq_true rfl) d_W_write_60 (fun H locs hP hD hS => ?_)
        have hP : va_P (gD G) vwC (wW G h np no dg tl sk sc sf so n p fk fp t k c f o bt bk bn ((ou 2).length) true ((ou 2).length) a2 b2 c2 (wrB rb (ou 2)) de9_57 d2 e2 f2) H := hP
        have hD : va_D A (wW G h np no dg tl sk sc sf so n p fk fp t k c f o bt bk bn ((ou 2).length) true ((ou 2).length) a2 b2 c2 (wrB rb (ou 2)) de9_57 d2 e2 f2) := hD
        refine lv_aload_n hx hb d_W_write_63 rfl (lv_at hl 1 rfl) ?_
        refine va_get (D := gD G) (ci := 4) (v := .ref (h 22)) (C := "WordShapes") (T := TW) (N := 5) hx hb hg iw_W hown hK hP 0 rfl rfl 3 (by decide) (hg _ tk_158) (fun _ h9 => h9) rfl d_W_write_64 ?_
        refine va_getN (D := gD G) (ci := 3) (v := .int (nI ((ou 2).length))) (C := "WordShapes$Writer") (T := TT) (N := 10) hx hb hg iw_T hown hK hP 22 rfl rfl 4 (by decide) (va_Nw.use rfl (nw_128 hE.1)) (fun _ h9 => h9) rfl d_W_write_67 ?_
        exact yr_i (ws := wW G h np no dg tl sk sc sf so n p fk fp t k c f o bt bk bn ((ou 2).length) true ((ou 2).length) a2 b2 c2 (wrB rb (ou 2)) de9_57 d2 e2 f2) hx hb hrt hlocks (⟨_, _, _, _, _, _, _, _, by decide, rfl, c10, c34, rfl, rfl⟩) rfl hK hP hD hS d_W_write_70
      · skip
        exact yt_S (ws := wW G h np no dg tl sk sc sf so n p fk fp t k c f o bt bk bn ln false ((ou 2).length) a1 b1 c1 rb de9_29 d1 e1 f1) hx hb hlt hown xo_W_116_120 (nw_615 hE.1) (sr_622 hE.2.1) hg hE hK hP hD hS hA hml hl.1 hxt hlocks d_W_write_37 d_W_write_40 d_W_write_41 d_W_write_43 d_W_write_46 (by decide) (by decide) (Or.inr (Or.inr ⟨_, _, _, _, _, _, _, _, by decide, rfl, c10, c34, rfl, rfl⟩)) rfl
    · skip
      exact yt_S (ws := wW G h np no dg tl sk sc sf so n p fk fp t k c f o bt bk bn ln ks la nx py fi rb de wt wk wn) hx hb hlt hown xo_W_55_59 (nw_192 hE.1) (sr_561 hE.2.1) hg hE hK hP hD hS hA hml hl.1 hxt hlocks d_W_write_13 d_W_write_16 d_W_write_17 d_W_write_19 d_W_write_22 (by decide) (by decide) (Or.inr (Or.inl ⟨_, by decide, rfl, c10, rfl, rfl⟩)) rfl
  · skip
    refine lv_astore_n (lv' := [(2, .ref (h 11)), (0, .ref (h 0)), (1, .int (nI 3))]) hx hb d_W_write_5 rfl hl (by decide) rfl (fun ls hl => ?_)
    have hsk9 := hsk 3
    have hsc9 := hsc 3
    refine lv_aload_n hx hb d_W_write_6 rfl (lv_at hl 0 rfl) ?_
    refine y_call (y_runV (As := []) (rest := []) hx hb hml hown (c_S_isNone l G (fun i => h (i + 11)) np no (sk 3) (sc 3) (sf 3) (so 3)  (by omega)) (gV (n := 0) hg tk_557 tk_558 tk_559 tk_3 tk_560 (by decide +kernel) ⟨Nat.le_of_ble_eq_true rfl, Nat.le_of_ble_eq_true rfl⟩) (va_recv hK hP (ci := 2) (q0 := 11) rfl rfl) (y_pre hE hK hP hD hS hA [11, 12, 13] rfl rfl) rfl rfl hl.1 rfl (lv_room (Nat.le_of_ble_eq_true rfl)) d_W_write_7 ⟨Nat.le_of_ble_eq_true rfl, Nat.le_of_ble_eq_true rfl⟩) hP hD hS hA [11, 12, 13] rfl (fun _ _ _ _ _ _ hp => False.elim hp) (fun v9 w9 H locs hp hlw hP hD hS => ?_)
    obtain ⟨rfl, rfl⟩ := hp
    have hP : va_P (gD G) vwC (wW G h np no dg tl sk sc sf so n p fk fp t k c f o bt bk bn ln ks la nx py fi rb de wt wk wn) H := hP
    have hD : va_D A (wW G h np no dg tl sk sc sf so n p fk fp t k c f o bt bk bn ln ks la nx py fi rb de wt wk wn) := hD
    refine W.eq (g2 := F0 mm 10 ls [.int (bz (decide ((sk 3) = 0)))]) rfl ?_
    refine yz_if_eq (P := (sk 3) = 0) (tgt := 23) hx hb d_W_write_10 (by decide) (fun c10 => ?_) (fun c10 => ?_)
    · skip
      refine lv_aload_n hx hb d_W_write_23 rfl (lv_at hl 1 rfl) ?_
      refine va_get (D := gD G) (ci := 4) (v := .ref (h 22)) (C := "WordShapes") (T := TW) (N := 5) hx hb hg iw_W hown hK hP 0 rfl rfl 3 (by decide) (hg _ tk_158) (fun _ h9 => h9) rfl d_W_write_24 ?_
      refine lv_aload_n hx hb d_W_write_27 rfl (lv_at hl 0 rfl) ?_
      obtain ⟨a1, b1, c1, d1, e1, f1, hr1⟩ := hR 3 (by decide) c10 wk wn
      refine lv_iconst (v := nI 0) hx hb d_W_write_28 (by decide) ?_
      refine y_call (y_runV (As := [.ref (h 11), .int (nI 0)]) (rest := []) hx hb hml hown (c_T_lay l G (fun i => h (i + 22)) dg ln ks la nx py fi (fun i => sb_b (rb i)) de wt wk wn (fun i => h (i + 11)) np no (sk 3) (sc 3) (sf 3) (so 3) false (ou 3) a1 b1 c1 d1 e1 f1 (by omega) (by omega) (by omega) (by omega) (by omega) (hr1)) (gV (n := 2) hg tk_562 tk_563 tk_564 tk_6 tk_565 (by decide +kernel) ⟨Nat.le_of_ble_eq_true rfl, Nat.le_of_ble_eq_true rfl⟩) (va_recv hK hP (ci := 3) (q0 := 22) rfl rfl) (y_pre hE hK hP hD hS hA [22, 23, 24, 25, 26, 27, 11, 12, 13] rfl rfl) rfl rfl hl.1 rfl (lv_room (Nat.le_of_ble_eq_true rfl)) d_W_write_29 ⟨Nat.le_of_ble_eq_true rfl, Nat.le_of_ble_eq_true rfl⟩) hP hD hS hA [22, 23, 24, 25, 26, 27, 11, 12, 13] rfl (fun _ _ _ _ _ _ hp => False.elim hp) (fun v9 w9 H locs hp hlw hP hD hS => ?_)
      obtain ⟨de9_29, hlen_29, rfl, rfl⟩ := hp
      rw [wrF_f] at hP hD
      have hP : va_P (gD G) vwC (wW G h np no dg tl sk sc sf so n p fk fp t k c f o bt bk bn ln false ((ou 3).length) a1 b1 c1 rb de9_29 d1 e1 f1) H := hP
      have hD : va_D A (wW G h np no dg tl sk sc sf so n p fk fp t k c f o bt bk bn ln false ((ou 3).length) a1 b1 c1 rb de9_29 d1 e1 f1) := hD
      refine W.eq (g2 := F0 mm 32 ls [.int (nI ((ou 3).length))]) rfl ?_
      refine lv_ldc (v := nI 131072) hx hb hown (hg _ tk_612) d_W_write_32 ?_
      refine yn_icmp_le (a := (ou 3).length) (b := 131072) (tgt := 47) hx hb d_W_write_34 (by decide) (by omega) (by omega) (fun c34 => ?_) (fun c34 => ?_)
      · skip
        refine lv_aload_n hx hb d_W_write_47 rfl (lv_at hl 1 rfl) ?_
        refine va_get (D := gD G) (ci := 4) (v := .ref (h 22)) (C := "WordShapes") (T := TW) (N := 5) hx hb hg iw_W hown hK hP 0 rfl rfl 3 (by decide) (hg _ tk_158) (fun _ h9 => h9) rfl d_W_write_48 ?_
        refine lv_aload_n hx hb d_W_write_51 rfl (lv_at hl 1 rfl) ?_
        refine va_get (D := gD G) (ci := 4) (v := .ref (h 22)) (C := "WordShapes") (T := TW) (N := 5) hx hb hg iw_W hown hK hP 0 rfl rfl 3 (by decide) (hg _ tk_158) (fun _ h9 => h9) rfl d_W_write_52 ?_
        refine lv_aload_n hx hb d_W_write_55 rfl (lv_at hl 0 rfl) ?_
        obtain ⟨a2, b2, c2, d2, e2, f2, hr2⟩ := hR 3 (by decide) c10 e1 f1
        refine lv_iconst (v := nI 1) hx hb d_W_write_56 (by decide) ?_
        refine y_call (y_runV (As := [.ref (h 11), .int (nI 1)]) (rest := [.ref (h 22)]) hx hb hml hown (c_T_lay l G (fun i => h (i + 22)) dg ln false ((ou 3).length) a1 b1 c1 (fun i => sb_b (rb i)) de9_29 d1 e1 f1 (fun i => h (i + 11)) np no (sk 3) (sc 3) (sf 3) (so 3) true (ou 3) a2 b2 c2 d2 e2 f2 (by omega) (by omega) (by omega) (by omega) (by omega) (hr2)) (gV (n := 2) hg tk_562 tk_563 tk_564 tk_6 tk_565 (by decide +kernel) ⟨Nat.le_of_ble_eq_true rfl, Nat.le_of_ble_eq_true rfl⟩) (va_recv hK hP (ci := 3) (q0 := 22) rfl rfl) (y_pre hE hK hP hD hS hA [22, 23, 24, 25, 26, 27, 11, 12, 13] rfl rfl) rfl rfl hl.1 rfl (lv_room (Nat.le_of_ble_eq_true rfl)) d_W_write_57 ⟨Nat.le_of_ble_eq_true rfl, Nat.le_of_ble_eq_true rfl⟩) hP hD hS hA [22, 23, 24, 25, 26, 27, 11, 12, 13] rfl (fun _ _ _ _ _ _ hp => False.elim hp) (fun v9 w9 H locs hp hlw hP hD hS => ?_)
        obtain ⟨de9_57, hlen_57, rfl, rfl⟩ := hp
        rw [wrF_t] at hP hD
        have hP : va_P (gD G) vwC (wW G h np no dg tl sk sc sf so n p fk fp t k c f o bt bk bn ln true ((ou 3).length) a2 b2 c2 (wrB rb (ou 3)) de9_57 d2 e2 f2) H := hP
        have hD : va_D A (wW G h np no dg tl sk sc sf so n p fk fp t k c f o bt bk bn ln true ((ou 3).length) a2 b2 c2 (wrB rb (ou 3)) de9_57 d2 e2 f2) := hD
        refine W.eq (g2 := F0 mm 60 ls [.int (nI ((ou 3).length)), .ref (h 22)]) rfl ?_
        refine va_putN (D := gD G) (ci := 3) (v := .int (nI ((ou 3).length))) (ty := .int) (C := "WordShapes$Writer") (T := TT) (N := 10) hx hb hg iw_T ft_T fo_T nm_T hown hK hP hD hS 22 rfl rfl 4 (by decide) (va_Nw.use rfl (nw_128 hE.1)) (fun _ h9 => h9) rfl (by decide +kernel) (rfl) (rfl) (Nat.le_of_ble_eq_true rfl) d_W_write_60 (fun H locs hP hD hS => ?_)
        have hP : va_P (gD G) vwC (wW G h np no dg tl sk sc sf so n p fk fp t k c f o bt bk bn ((ou 3).length) true ((ou 3).length) a2 b2 c2 (wrB rb (ou 3)) de9_57 d2 e2 f2) H := hP
        have hD : va_D A (wW G h np no dg tl sk sc sf so n p fk fp t k c f o bt bk bn ((ou 3).length) true ((ou 3).length) a2 b2 c2 (wrB rb (ou 3)) de9_57 d2 e2 f2) := hD
        refine lv_aload_n hx hb d_W_write_63 rfl (lv_at hl 1 rfl) ?_
        refine va_get (D := gD G) (ci := 4) (v := .ref (h 22)) (C := "WordShapes") (T := TW) (N := 5) hx hb hg iw_W hown hK hP 0 rfl rfl 3 (by decide) (hg _ tk_158) (fun _ h9 => h9) rfl d_W_write_64 ?_
        refine va_getN (D := gD G) (ci := 3) (v := .int (nI ((ou 3).length))) (C := "WordShapes$Writer") (T := TT) (N := 10) hx hb hg iw_T hown hK hP 22 rfl rfl 4 (by decide) (va_Nw.use rfl (nw_128 hE.1)) (fun _ h9 => h9) rfl d_W_write_67 ?_
        exact yr_i (ws := wW G h np no dg tl sk sc sf so n p fk fp t k c f o bt bk bn ((ou 3).length) true ((ou 3).length) a2 b2 c2 (wrB rb (ou 3)) de9_57 d2 e2 f2) hx hb hrt hlocks (⟨_, _, _, _, _, _, _, _, by decide, rfl, c10, c34, rfl, rfl⟩) rfl hK hP hD hS d_W_write_70
      · skip
        exact yt_S (ws := wW G h np no dg tl sk sc sf so n p fk fp t k c f o bt bk bn ln false ((ou 3).length) a1 b1 c1 rb de9_29 d1 e1 f1) hx hb hlt hown xo_W_116_120 (nw_615 hE.1) (sr_622 hE.2.1) hg hE hK hP hD hS hA hml hl.1 hxt hlocks d_W_write_37 d_W_write_40 d_W_write_41 d_W_write_43 d_W_write_46 (by decide) (by decide) (Or.inr (Or.inr ⟨_, _, _, _, _, _, _, _, by decide, rfl, c10, c34, rfl, rfl⟩)) rfl
    · skip
      exact yt_S (ws := wW G h np no dg tl sk sc sf so n p fk fp t k c f o bt bk bn ln ks la nx py fi rb de wt wk wn) hx hb hlt hown xo_W_55_59 (nw_192 hE.1) (sr_561 hE.2.1) hg hE hK hP hD hS hA hml hl.1 hxt hlocks d_W_write_13 d_W_write_16 d_W_write_17 d_W_write_19 d_W_write_22 (by decide) (by decide) (Or.inr (Or.inl ⟨_, by decide, rfl, c10, rfl, rfl⟩)) rfl
