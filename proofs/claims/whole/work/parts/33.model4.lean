set_option maxHeartbeats 4000000 in
set_option maxRecDepth 100000 in
theorem c_M_number (l : Launch) (G : gl) (h : Nat → Nat) (dg : Nat) (mp : Nat) (ml : Nat) (th : Nat) (n : Nat) (t : Nat → Nat) (pl : Nat → Int32) (pn : Nat → Nat) (xy : Nat → Int32) (pt : Nat → Nat) (sz : Nat) (rs : Nat → Nat) (ou : Nat → Nat) (wr : Nat) (sl : Nat) (p : Nat) (fk : Nat) (fp : Nat) (va : Int32) (oa : Nat → Int32) (oc : Nat → Int32) (ok : Nat → Int32) (xs : List Int32) (ys : List (Int32 × Int32))  (hn : n ≤ 65536) (hp : p ≤ n) (ht : ∀ i, t i < 256) (hdg : dg ≤ 3) : YC l G y_M_number k_M_number 12 (Option.some FieldType.boolean) 4 82 [.ref (h 0)] (wMR G h dg mp ml th n t pl pn xy pt sz rs ou wr sl p fk fp va oa oc ok xs ys) (fun v w => (∃ q x, (numR t n dg (rn blN t n p) = .inr (q, x)) ∧ v = some (.int (nI 1)) ∧ w = wMR G h dg mp ml th n t pl pn xy pt sz rs ou wr sl q fk fp x oa oc ok xs ys) ∨ (∃ a b q, (numR t n dg (rn blN t n p) = .inl (a, b)) ∧ v = some (.int (nI 0)) ∧ w = wMR G h dg mp ml th n t pl pn xy pt sz rs ou wr sl q a b va oa oc ok xs ys)) (fun _ _ => False) := by
  refine yc_of (by decide) ?_
  intro pg ev sx mm bl mt cd A C0 hP hD
  obtain ⟨hx, hb, hrt, hml, hown, hg, hlocks, hxt, hE, hK, hA, hmn⟩ := C0
  have hS : va_S A sx.heap sx.heap [] := va_S.rf
  have hl := lv_entry ([.ref (h 0)]) (n := 12) (Nat.le_of_ble_eq_true rfl)
  rw [lg_entry_eq]
  generalize (lg_sl ([.ref (h 0)]) ++ List.replicate (12 - (lg_sl ([.ref (h 0)])).length) Slot.unset).toArray = ls at hl ⊢
  have hl : lv_has ls 12 [(0, .ref (h 0))] := hl
  obtain ⟨P, hPe⟩ : ∃ P, P = rn blN t n p := ⟨_, rfl⟩
  have hPn : P ≤ n := by rw [hPe]; exact rn_le hp
  obtain ⟨hn1, hn2, hn3, hn4, hn6⟩ := nn (t := t) hPn
  obtain ⟨hn7, hn8⟩ := nx5 (t := t) hPn
  have hnA := nA_le (t := t) hPn
  have hnc := ch_nu (hr t n P) (Nat.lt_succ_of_le (hr_le ht _ _))
  obtain ⟨H, hH⟩ : ∃ H, H = sx.heap := ⟨_, rfl⟩
  rw [← hH] at hP
  have hS : va_S A sx.heap H [] := by rw [hH]; exact hS
  suffices h9 : W pg l ev (yR 4 82) sx mm _ bl mt cd H [] 0 0 (yMQ bl G A _ _ _ _ sx) (F0 mm 0 ls []) by rw [hH] at h9; exact h9
  obtain ⟨locs, hlo⟩ : ∃ locs : List Loc, locs = [] := ⟨_, rfl⟩
  rw [← hlo] at hS ⊢
  have J341 : ∀ (z : Bool) (pw : Int64) (hz : z = decide (hr t n P = 45)) (hnu : nuN (hr t n P) = true) (hxb : ¬ (nX t n P ∧ nXb t n P)) (hpw : pw.toInt = nP t n P) (hp1 : -200000000 ≤ nP t n P) (hp2 : nP t n P ≤ 200000000) (hend : ¬ (nA t n P = 0 ∨ leN (hr t n (n5 t n P)) = true ∨ nuN (hr t n (n5 t n P)) = true)) (H : Heap) (locs : List Loc) (ls : Array Slot), va_P (gD G) vwC (wMR G h dg mp ml th n t pl pn xy pt sz rs ou wr sl (n5 t n P) fk fp va oa oc ok xs ys) H → va_D A (wMR G h dg mp ml th n t pl pn xy pt sz rs ou wr sl (n5 t n P) fk fp va oa oc ok xs ys) → va_S A sx.heap H locs → lv_has ls 12 [(0, .ref (h 0)), (1, .int (nI P)), (2, .int (bz z)), (3, .int (nI (n1 t n P))), (4, .int (nI (n2 t n P - n1 t n P))), (6, .int (nI (n4 t n P))), (7, .long pw)] → W pg l ev (yR 4 82) sx mm ([.ref (h 0)] : List Value).toArray bl mt cd H locs 0 0 (yMQ bl G A (wMR G h dg mp ml th n t pl pn xy pt sz rs ou wr sl p fk fp va oa oc ok xs ys).length (fun v w => (∃ q x, (numR t n dg (rn blN t n p) = .inr (q, x)) ∧ v = some (.int (nI 1)) ∧ w = wMR G h dg mp ml th n t pl pn xy pt sz rs ou wr sl q fk fp x oa oc ok xs ys) ∨ (∃ a b q, (numR t n dg (rn blN t n p) = .inl (a, b)) ∧ v = some (.int (nI 0)) ∧ w = wMR G h dg mp ml th n t pl pn xy pt sz rs ou wr sl q a b va oa oc ok xs ys)) (fun _ _ => False) ([.ref (h 0)] : List Value).toArray sx) (F0 mm 341 ls []) := by
    intro z pw hz hnu hxb hpw hp1 hp2 hend H locs ls hP hD hS hl
    have hW9 := lN_W (w := n2 t n P - n1 t n P) (d := dg) (by omega) hdg hpw hp1 hp2
    have hag := num_agr (t := t) hn hPn hdg
    refine lv_aload_n hx hb d_M_number_341 rfl (lv_at hl 0 rfl) ?_
    refine lv_iload_n hx hb d_M_number_342 rfl (lv_at hl 3 rfl) ?_
    refine lv_iload hx hb d_M_number_343 (lv_at hl 5 rfl) ?_
    refine lv_iload hx hb d_M_number_345 (lv_at hl 4 rfl) ?_
    refine lv_i2l hx hb d_M_number_347 (v := (nI (n2 t n P - n1 t n P)).toInt64) rfl ?_
    refine y_eql (y := lN (n2 t n P - n1 t n P)) (i2lN (by omega)) ?_
    refine lv_lload hx hb d_M_number_348 (lv_at hl 6 rfl) ?_
    refine lv_ladd hx hb d_M_number_350 ?_
    refine lv_aload_n hx hb d_M_number_351 rfl (lv_at hl 0 rfl) ?_
    refine va_get (D := gD G) (ci := 5) (v := .int (nI dg)) (C := "WordShapesModel") (T := TM) (N := 24) hx hb hg iw_M hown hK hP 0 rfl rfl 3 (by decide) (hg _ tk_686) (fun _ h9 => h9) rfl d_M_number_352 ?_
    refine lv_i2l hx hb d_M_number_355 (v := (nI dg).toInt64) rfl ?_
    refine y_eql (y := lN dg) (i2lN (by omega)) ?_
    refine lv_ladd hx hb d_M_number_356 ?_
    refine y_callW (y_runV (As := [.int (nI (n1 t n P)), .int (nI (n4 t n P)), .long (((lN (n2 t n P - n1 t n P)) + pw) + (lN dg))]) (rest := []) hx hb hml hown (c_M_rounded l G h dg mp ml th n t pl pn xy pt sz rs ou wr sl (n5 t n P) fk fp va oa oc ok xs ys (n1 t n P) (n4 t n P) (((lN (n2 t n P - n1 t n P)) + pw) + (lN dg)) (hn) (by omega) (ht) (by omega) (by omega) (n14_dig hPn)) (gV (n := 3) hg tk_872 tk_874 (gt_s 50 (by decide +kernel) (by decide +kernel)) tk_7 tk_875 (by decide +kernel) ⟨Nat.le_of_ble_eq_true rfl, Nat.le_of_ble_eq_true rfl⟩) (va_recv hK hP (ci := 5) (q0 := 0) rfl rfl) (y_preW hE hK hP hD hS hA) rfl rfl hl.1 rfl (lv_room (Nat.le_of_ble_eq_true rfl)) d_M_number_357 ⟨Nat.le_of_ble_eq_true rfl, Nat.le_of_ble_eq_true rfl⟩) hD hS hA (fun _ _ _ _ _ _ hp => False.elim hp) (fun v9 w9 H locs hp hlw hP hD hS => ?_)
    obtain ⟨r_357, rfl, hr1_357, hr2_357, rfl⟩ := hp
    have hP : va_P (gD G) vwC (wMR G h dg mp ml th n t pl pn xy pt sz rs ou wr sl (n5 t n P) fk fp va oa oc ok xs ys) H := hP
    have hD : va_D A (wMR G h dg mp ml th n t pl pn xy pt sz rs ou wr sl (n5 t n P) fk fp va oa oc ok xs ys) := hD
    refine W.eq (g2 := F0 mm 360 ls [.long (lN r_357)]) rfl ?_
    refine lv_lstore (lv' := [(9, .long (lN r_357)), (0, .ref (h 0)), (1, .int (nI P)), (2, .int (bz z)), (3, .int (nI (n1 t n P))), (4, .int (nI (n2 t n P - n1 t n P))), (6, .int (nI (n4 t n P))), (7, .long pw)]) hx hb d_M_number_360 hl (by decide) rfl (fun ls hl => ?_)
    refine lv_lload hx hb d_M_number_362 (lv_at hl 0 rfl) ?_
    refine lv_ldc2 (v := lN 1000000000) hx hb hown (hg _ tk_878) d_M_number_364 ?_
    refine yl_le (a := r_357) (b := 1000000000) (tgt := 378) hx hb d_M_number_367 d_M_number_368 (by decide) (by omega) (by omega) (fun c368 => ?_) (fun c368 => ?_)
    · skip
      refine lv_aload_n hx hb d_M_number_378 rfl (lv_at hl 1 rfl) ?_
      refine lv_iload_n hx hb d_M_number_379 rfl (lv_at hl 3 rfl) ?_
      refine yy_if_eq (P := z) (tgt := 390) hx hb d_M_number_380 (by decide) (fun c380 => ?_) (fun c380 => ?_)
      · skip
        refine lv_lload hx hb d_M_number_390 (lv_at hl 0 rfl) ?_
        refine lv_l2i hx hb d_M_number_392 (v := (lN r_357).toInt32) rfl ?_
        refine y_eqi (y := nI r_357) (lN_i _) ?_
        refine va_put (D := gD G) (ci := 5) (v := .int (nI r_357)) (ty := .int) (C := "WordShapesModel") (T := TM) (N := 24) hx hb hg iw_M ft_M fo_M nm_M hown hK hP hD hS 0 rfl rfl 20 (by decide) (hg _ tk_703) (fun _ h9 => h9) rfl (by decide +kernel) (rfl) (rfl) (Nat.le_of_ble_eq_true rfl) d_M_number_393 (fun H locs hP hD hS => ?_)
        have hP : va_P (gD G) vwC (wMR G h dg mp ml th n t pl pn xy pt sz rs ou wr sl (n5 t n P) fk fp (nI r_357) oa oc ok xs ys) H := hP
        have hD : va_D A (wMR G h dg mp ml th n t pl pn xy pt sz rs ou wr sl (n5 t n P) fk fp (nI r_357) oa oc ok xs ys) := hD
        refine lv_iconst (v := nI 1) hx hb d_M_number_396 (by decide) ?_
        exact yr_z (ws := wMR G h dg mp ml th n t pl pn xy pt sz rs ou wr sl (n5 t n P) fk fp (nI r_357) oa oc ok xs ys) hx hb hrt (rfl) hlocks (Or.inl ⟨_, _, by rw [← hPe]; unfold numR; rw [if_neg (by rw [hnu]; decide)]; have h1 := hr1_357; rw [hW9] at h1; have h7 : exR t (n1 t n P) (n4 t n P) (↑(n2 t n P - n1 t n P) + nP t n P + ↑dg) = r_357 := (by rcases Nat.lt_or_ge 1000000000 (exR t (n1 t n P) (n4 t n P) (↑(n2 t n P - n1 t n P) + nP t n P + ↑dg)) with z9 | z9; (have := h1.2 z9; omega); exact (h1.1 z9).symm); have h8 : nU t n dg P = r_357 := (by rcases hag with y | y; exact y.trans h7; omega); rw [if_neg hxb, if_neg hend, if_neg (by omega), h8]; first | (rw [if_pos (of_decide_eq_true (hz.symm.trans c380))]) | (rw [if_neg (of_decide_eq_false (hz.symm.trans c380))]), rfl, rfl⟩) rfl hK hP hD hS d_M_number_397
      · skip
        refine lv_lload hx hb d_M_number_383 (lv_at hl 0 rfl) ?_
        refine lv_lneg hx hb d_M_number_385 ?_
        refine lv_l2i hx hb d_M_number_386 (v := (-(lN r_357)).toInt32) rfl ?_
        refine y_eqi (y := -nI r_357) (lN_neg _) ?_
        refine lv_goto (tgt := 393) hx hb d_M_number_387 (by decide) ?_
        refine va_put (D := gD G) (ci := 5) (v := .int (-nI r_357)) (ty := .int) (C := "WordShapesModel") (T := TM) (N := 24) hx hb hg iw_M ft_M fo_M nm_M hown hK hP hD hS 0 rfl rfl 20 (by decide) (hg _ tk_703) (fun _ h9 => h9) rfl (by decide +kernel) (rfl) (rfl) (Nat.le_of_ble_eq_true rfl) d_M_number_393 (fun H locs hP hD hS => ?_)
        have hP : va_P (gD G) vwC (wMR G h dg mp ml th n t pl pn xy pt sz rs ou wr sl (n5 t n P) fk fp (-nI r_357) oa oc ok xs ys) H := hP
        have hD : va_D A (wMR G h dg mp ml th n t pl pn xy pt sz rs ou wr sl (n5 t n P) fk fp (-nI r_357) oa oc ok xs ys) := hD
        refine lv_iconst (v := nI 1) hx hb d_M_number_396 (by decide) ?_
        exact yr_z (ws := wMR G h dg mp ml th n t pl pn xy pt sz rs ou wr sl (n5 t n P) fk fp (-nI r_357) oa oc ok xs ys) hx hb hrt (rfl) hlocks (Or.inl ⟨_, _, by rw [← hPe]; unfold numR; rw [if_neg (by rw [hnu]; decide)]; have h1 := hr1_357; rw [hW9] at h1; have h7 : exR t (n1 t n P) (n4 t n P) (↑(n2 t n P - n1 t n P) + nP t n P + ↑dg) = r_357 := (by rcases Nat.lt_or_ge 1000000000 (exR t (n1 t n P) (n4 t n P) (↑(n2 t n P - n1 t n P) + nP t n P + ↑dg)) with z9 | z9; (have := h1.2 z9; omega); exact (h1.1 z9).symm); have h8 : nU t n dg P = r_357 := (by rcases hag with y | y; exact y.trans h7; omega); rw [if_neg hxb, if_neg hend, if_neg (by omega), h8]; first | (rw [if_pos (of_decide_eq_true (hz.symm.trans c380))]) | (rw [if_neg (of_decide_eq_false (hz.symm.trans c380))]), rfl, rfl⟩) rfl hK hP hD hS d_M_number_397
    · skip
      refine lv_aload_n hx hb d_M_number_371 rfl (lv_at hl 1 rfl) ?_
      refine lv_iconst (v := nI 5) hx hb d_M_number_372 (by decide) ?_
      refine lv_iload_n hx hb d_M_number_373 rfl (lv_at hl 2 rfl) ?_
      refine y_callW (y_runV (As := [.int (nI 5), .int (nI P)]) (rest := []) hx hb hml hown (c_M_wrong l G h dg mp ml th n t pl pn xy pt sz rs ou wr sl (n5 t n P) fk fp va oa oc ok xs ys 5 P ) (gV (n := 2) hg tk_817 tk_819 (gt_s 37 (by decide +kernel) (by decide +kernel)) tk_7 tk_820 (by decide +kernel) ⟨Nat.le_of_ble_eq_true rfl, Nat.le_of_ble_eq_true rfl⟩) (va_recv hK hP (ci := 5) (q0 := 0) rfl rfl) (y_preW hE hK hP hD hS hA) rfl rfl hl.1 rfl (lv_room (Nat.le_of_ble_eq_true rfl)) d_M_number_374 ⟨Nat.le_of_ble_eq_true rfl, Nat.le_of_ble_eq_true rfl⟩) hD hS hA (fun _ _ _ _ _ _ hp => False.elim hp) (fun v9 w9 H locs hp hlw hP hD hS => ?_)
      obtain ⟨rfl, rfl⟩ := hp
      have hP : va_P (gD G) vwC (wMR G h dg mp ml th n t pl pn xy pt sz rs ou wr sl (n5 t n P) 5 P va oa oc ok xs ys) H := hP
      have hD : va_D A (wMR G h dg mp ml th n t pl pn xy pt sz rs ou wr sl (n5 t n P) 5 P va oa oc ok xs ys) := hD
      refine W.eq (g2 := F0 mm 377 ls [.int (nI 0)]) rfl ?_
      exact yr_z (ws := wMR G h dg mp ml th n t pl pn xy pt sz rs ou wr sl (n5 t n P) 5 P va oa oc ok xs ys) hx hb hrt (rfl) hlocks (Or.inr ⟨_, _, _, by rw [← hPe]; unfold numR; rw [if_neg (by rw [hnu]; decide)]; rw [if_neg hxb, if_neg hend, if_pos (by have h1 := hr1_357; rw [hW9] at h1; rcases hag with y | y; (rw [y]; rcases Nat.lt_or_ge 1000000000 (exR t (n1 t n P) (n4 t n P) (↑(n2 t n P - n1 t n P) + nP t n P + ↑dg)) with z9 | z9; exact z9; (have := h1.1 z9; omega)); exact y.1)], rfl, rfl⟩) rfl hK hP hD hS d_M_number_377
  have J295 : ∀ (z : Bool) (pw : Int64) (hz : z = decide (hr t n P = 45)) (hnu : nuN (hr t n P) = true) (hA0 : ¬ nA t n P = 0) (hxb : ¬ (nX t n P ∧ nXb t n P)) (hpw : pw.toInt = nP t n P) (hp1 : -200000000 ≤ nP t n P) (hp2 : nP t n P ≤ 200000000) (H : Heap) (locs : List Loc) (ls : Array Slot), va_P (gD G) vwC (wMR G h dg mp ml th n t pl pn xy pt sz rs ou wr sl (n5 t n P) fk fp va oa oc ok xs ys) H → va_D A (wMR G h dg mp ml th n t pl pn xy pt sz rs ou wr sl (n5 t n P) fk fp va oa oc ok xs ys) → va_S A sx.heap H locs → lv_has ls 12 [(0, .ref (h 0)), (1, .int (nI P)), (2, .int (bz z)), (3, .int (nI (n1 t n P))), (4, .int (nI (n2 t n P - n1 t n P))), (6, .int (nI (n4 t n P))), (7, .long pw)] → W pg l ev (yR 4 82) sx mm ([.ref (h 0)] : List Value).toArray bl mt cd H locs 0 0 (yMQ bl G A (wMR G h dg mp ml th n t pl pn xy pt sz rs ou wr sl p fk fp va oa oc ok xs ys).length (fun v w => (∃ q x, (numR t n dg (rn blN t n p) = .inr (q, x)) ∧ v = some (.int (nI 1)) ∧ w = wMR G h dg mp ml th n t pl pn xy pt sz rs ou wr sl q fk fp x oa oc ok xs ys) ∨ (∃ a b q, (numR t n dg (rn blN t n p) = .inl (a, b)) ∧ v = some (.int (nI 0)) ∧ w = wMR G h dg mp ml th n t pl pn xy pt sz rs ou wr sl q a b va oa oc ok xs ys)) (fun _ _ => False) ([.ref (h 0)] : List Value).toArray sx) (F0 mm 295 ls []) := by
    intro z pw hz hnu hA0 hxb hpw hp1 hp2 H locs ls hP hD hS hl
    refine lv_aload_n hx hb d_M_number_295 rfl (lv_at hl 0 rfl) ?_
    refine y_callW (y_runV (As := []) (rest := []) hx hb hml hown (c_M_here l G h dg mp ml th n t pl pn xy pt sz rs ou wr sl (n5 t n P) fk fp va oa oc ok xs ys  (by omega) (by omega) (ht)) (gV (n := 0) hg tk_797 tk_799 (gt_s 35 (by decide +kernel) (by decide +kernel)) tk_7 tk_800 (by decide +kernel) ⟨Nat.le_of_ble_eq_true rfl, Nat.le_of_ble_eq_true rfl⟩) (va_recv hK hP (ci := 5) (q0 := 0) rfl rfl) (y_preW hE hK hP hD hS hA) rfl rfl hl.1 rfl (lv_room (Nat.le_of_ble_eq_true rfl)) d_M_number_296 ⟨Nat.le_of_ble_eq_true rfl, Nat.le_of_ble_eq_true rfl⟩) hD hS hA (fun _ _ _ _ _ _ hp => False.elim hp) (fun v9 w9 H locs hp hlw hP hD hS => ?_)
    obtain ⟨rfl, rfl⟩ := hp
    have hP : va_P (gD G) vwC (wMR G h dg mp ml th n t pl pn xy pt sz rs ou wr sl (n5 t n P) fk fp va oa oc ok xs ys) H := hP
    have hD : va_D A (wMR G h dg mp ml th n t pl pn xy pt sz rs ou wr sl (n5 t n P) fk fp va oa oc ok xs ys) := hD
    refine W.eq (g2 := F0 mm 299 ls [.int (toI (hr t n (n5 t n P)))]) rfl ?_
    refine y_call (y_runS (As := [.int (toI (hr t n (n5 t n P)))]) (rest := []) hx hb hml hown (c_M_isLetter l G  (toI (hr t n (n5 t n P))) ) (gS (n := 1) hg tk_801 tk_802 tk_7 tk_803 (by decide +kernel) ⟨Nat.le_of_ble_eq_true rfl, Nat.le_of_ble_eq_true rfl⟩) (y_pre hE hK hP hD hS hA [] rfl rfl) rfl rfl hl.1 rfl (lv_room (Nat.le_of_ble_eq_true rfl)) d_M_number_299 ⟨Nat.le_of_ble_eq_true rfl, Nat.le_of_ble_eq_true rfl⟩) hP hD hS hA [] rfl (fun _ _ _ _ _ _ hp => False.elim hp) (fun v9 w9 H locs hp hlw hP hD hS => ?_)
    obtain ⟨rfl, rfl⟩ := hp
    have hP : va_P (gD G) vwC (wMR G h dg mp ml th n t pl pn xy pt sz rs ou wr sl (n5 t n P) fk fp va oa oc ok xs ys) H := hP
    have hD : va_D A (wMR G h dg mp ml th n t pl pn xy pt sz rs ou wr sl (n5 t n P) fk fp va oa oc ok xs ys) := hD
    refine W.eq (g2 := F0 mm 302 ls [.int (bz (isLe (toI (hr t n (n5 t n P)))))]) rfl ?_
    refine yy_if_ne (P := isLe (toI (hr t n (n5 t n P)))) (tgt := 334) hx hb d_M_number_302 (by decide) (fun c302 => ?_) (fun c302 => ?_)
    · skip
      refine lv_aload_n hx hb d_M_number_334 rfl (lv_at hl 0 rfl) ?_
      refine lv_iconst (v := nI 4) hx hb d_M_number_335 (by decide) ?_
      refine lv_iload_n hx hb d_M_number_336 rfl (lv_at hl 1 rfl) ?_
      refine y_callW (y_runV (As := [.int (nI 4), .int (nI P)]) (rest := []) hx hb hml hown (c_M_wrong l G h dg mp ml th n t pl pn xy pt sz rs ou wr sl (n5 t n P) fk fp va oa oc ok xs ys 4 P ) (gV (n := 2) hg tk_817 tk_819 (gt_s 37 (by decide +kernel) (by decide +kernel)) tk_7 tk_820 (by decide +kernel) ⟨Nat.le_of_ble_eq_true rfl, Nat.le_of_ble_eq_true rfl⟩) (va_recv hK hP (ci := 5) (q0 := 0) rfl rfl) (y_preW hE hK hP hD hS hA) rfl rfl hl.1 rfl (lv_room (Nat.le_of_ble_eq_true rfl)) d_M_number_337 ⟨Nat.le_of_ble_eq_true rfl, Nat.le_of_ble_eq_true rfl⟩) hD hS hA (fun _ _ _ _ _ _ hp => False.elim hp) (fun v9 w9 H locs hp hlw hP hD hS => ?_)
      obtain ⟨rfl, rfl⟩ := hp
      have hP : va_P (gD G) vwC (wMR G h dg mp ml th n t pl pn xy pt sz rs ou wr sl (n5 t n P) 4 P va oa oc ok xs ys) H := hP
      have hD : va_D A (wMR G h dg mp ml th n t pl pn xy pt sz rs ou wr sl (n5 t n P) 4 P va oa oc ok xs ys) := hD
      refine W.eq (g2 := F0 mm 340 ls [.int (nI 0)]) rfl ?_
      exact yr_z (ws := wMR G h dg mp ml th n t pl pn xy pt sz rs ou wr sl (n5 t n P) 4 P va oa oc ok xs ys) hx hb hrt (rfl) hlocks (Or.inr ⟨_, _, _, by rw [← hPe]; unfold numR; rw [if_neg (by rw [hnu]; decide)]; rw [if_neg hxb, if_pos (by first | exact Or.inr (Or.inl ((ch_h _ (Nat.lt_succ_of_le (hr_le ht _ _))).2.1.symm.trans c302)) | (refine Or.inr (Or.inr ?_); rw [ch_nu _ (Nat.lt_succ_of_le (hr_le ht _ _))]; first | (rw [← (ch_h _ (Nat.lt_succ_of_le (hr_le ht _ _))).2.2.1, c312, Bool.or_true, Bool.true_or]) | (rw [← (ch_g _ (Nat.lt_succ_of_le (hr_le ht _ _))), c322, Bool.true_or, Bool.true_or]) | (rw [decide_eq_true c331, Bool.or_true])))], rfl, rfl⟩) rfl hK hP hD hS d_M_number_340
    · skip
      refine lv_aload_n hx hb d_M_number_305 rfl (lv_at hl 0 rfl) ?_
      refine y_callW (y_runV (As := []) (rest := []) hx hb hml hown (c_M_here l G h dg mp ml th n t pl pn xy pt sz rs ou wr sl (n5 t n P) fk fp va oa oc ok xs ys  (by omega) (by omega) (ht)) (gV (n := 0) hg tk_797 tk_799 (gt_s 35 (by decide +kernel) (by decide +kernel)) tk_7 tk_800 (by decide +kernel) ⟨Nat.le_of_ble_eq_true rfl, Nat.le_of_ble_eq_true rfl⟩) (va_recv hK hP (ci := 5) (q0 := 0) rfl rfl) (y_preW hE hK hP hD hS hA) rfl rfl hl.1 rfl (lv_room (Nat.le_of_ble_eq_true rfl)) d_M_number_306 ⟨Nat.le_of_ble_eq_true rfl, Nat.le_of_ble_eq_true rfl⟩) hD hS hA (fun _ _ _ _ _ _ hp => False.elim hp) (fun v9 w9 H locs hp hlw hP hD hS => ?_)
      obtain ⟨rfl, rfl⟩ := hp
      have hP : va_P (gD G) vwC (wMR G h dg mp ml th n t pl pn xy pt sz rs ou wr sl (n5 t n P) fk fp va oa oc ok xs ys) H := hP
      have hD : va_D A (wMR G h dg mp ml th n t pl pn xy pt sz rs ou wr sl (n5 t n P) fk fp va oa oc ok xs ys) := hD
      refine W.eq (g2 := F0 mm 309 ls [.int (toI (hr t n (n5 t n P)))]) rfl ?_
      refine y_call (y_runS (As := [.int (toI (hr t n (n5 t n P)))]) (rest := []) hx hb hml hown (c_M_isDigit l G  (toI (hr t n (n5 t n P))) ) (gS (n := 1) hg tk_811 tk_812 tk_7 tk_813 (by decide +kernel) ⟨Nat.le_of_ble_eq_true rfl, Nat.le_of_ble_eq_true rfl⟩) (y_pre hE hK hP hD hS hA [] rfl rfl) rfl rfl hl.1 rfl (lv_room (Nat.le_of_ble_eq_true rfl)) d_M_number_309 ⟨Nat.le_of_ble_eq_true rfl, Nat.le_of_ble_eq_true rfl⟩) hP hD hS hA [] rfl (fun _ _ _ _ _ _ hp => False.elim hp) (fun v9 w9 H locs hp hlw hP hD hS => ?_)
      obtain ⟨rfl, rfl⟩ := hp
      have hP : va_P (gD G) vwC (wMR G h dg mp ml th n t pl pn xy pt sz rs ou wr sl (n5 t n P) fk fp va oa oc ok xs ys) H := hP
      have hD : va_D A (wMR G h dg mp ml th n t pl pn xy pt sz rs ou wr sl (n5 t n P) fk fp va oa oc ok xs ys) := hD
      refine W.eq (g2 := F0 mm 312 ls [.int (bz (isDi (toI (hr t n (n5 t n P)))))]) rfl ?_
      refine yy_if_ne (P := isDi (toI (hr t n (n5 t n P)))) (tgt := 334) hx hb d_M_number_312 (by decide) (fun c312 => ?_) (fun c312 => ?_)
      · skip
        refine lv_aload_n hx hb d_M_number_334 rfl (lv_at hl 0 rfl) ?_
        refine lv_iconst (v := nI 4) hx hb d_M_number_335 (by decide) ?_
        refine lv_iload_n hx hb d_M_number_336 rfl (lv_at hl 1 rfl) ?_
        refine y_callW (y_runV (As := [.int (nI 4), .int (nI P)]) (rest := []) hx hb hml hown (c_M_wrong l G h dg mp ml th n t pl pn xy pt sz rs ou wr sl (n5 t n P) fk fp va oa oc ok xs ys 4 P ) (gV (n := 2) hg tk_817 tk_819 (gt_s 37 (by decide +kernel) (by decide +kernel)) tk_7 tk_820 (by decide +kernel) ⟨Nat.le_of_ble_eq_true rfl, Nat.le_of_ble_eq_true rfl⟩) (va_recv hK hP (ci := 5) (q0 := 0) rfl rfl) (y_preW hE hK hP hD hS hA) rfl rfl hl.1 rfl (lv_room (Nat.le_of_ble_eq_true rfl)) d_M_number_337 ⟨Nat.le_of_ble_eq_true rfl, Nat.le_of_ble_eq_true rfl⟩) hD hS hA (fun _ _ _ _ _ _ hp => False.elim hp) (fun v9 w9 H locs hp hlw hP hD hS => ?_)
        obtain ⟨rfl, rfl⟩ := hp
        have hP : va_P (gD G) vwC (wMR G h dg mp ml th n t pl pn xy pt sz rs ou wr sl (n5 t n P) 4 P va oa oc ok xs ys) H := hP
        have hD : va_D A (wMR G h dg mp ml th n t pl pn xy pt sz rs ou wr sl (n5 t n P) 4 P va oa oc ok xs ys) := hD
        refine W.eq (g2 := F0 mm 340 ls [.int (nI 0)]) rfl ?_
        exact yr_z (ws := wMR G h dg mp ml th n t pl pn xy pt sz rs ou wr sl (n5 t n P) 4 P va oa oc ok xs ys) hx hb hrt (rfl) hlocks (Or.inr ⟨_, _, _, by rw [← hPe]; unfold numR; rw [if_neg (by rw [hnu]; decide)]; rw [if_neg hxb, if_pos (by first | exact Or.inr (Or.inl ((ch_h _ (Nat.lt_succ_of_le (hr_le ht _ _))).2.1.symm.trans c302)) | (refine Or.inr (Or.inr ?_); rw [ch_nu _ (Nat.lt_succ_of_le (hr_le ht _ _))]; first | (rw [← (ch_h _ (Nat.lt_succ_of_le (hr_le ht _ _))).2.2.1, c312, Bool.or_true, Bool.true_or]) | (rw [← (ch_g _ (Nat.lt_succ_of_le (hr_le ht _ _))), c322, Bool.true_or, Bool.true_or]) | (rw [decide_eq_true c331, Bool.or_true])))], rfl, rfl⟩) rfl hK hP hD hS d_M_number_340
      · skip
        refine lv_aload_n hx hb d_M_number_315 rfl (lv_at hl 0 rfl) ?_
        refine y_callW (y_runV (As := []) (rest := []) hx hb hml hown (c_M_here l G h dg mp ml th n t pl pn xy pt sz rs ou wr sl (n5 t n P) fk fp va oa oc ok xs ys  (by omega) (by omega) (ht)) (gV (n := 0) hg tk_797 tk_799 (gt_s 35 (by decide +kernel) (by decide +kernel)) tk_7 tk_800 (by decide +kernel) ⟨Nat.le_of_ble_eq_true rfl, Nat.le_of_ble_eq_true rfl⟩) (va_recv hK hP (ci := 5) (q0 := 0) rfl rfl) (y_preW hE hK hP hD hS hA) rfl rfl hl.1 rfl (lv_room (Nat.le_of_ble_eq_true rfl)) d_M_number_316 ⟨Nat.le_of_ble_eq_true rfl, Nat.le_of_ble_eq_true rfl⟩) hD hS hA (fun _ _ _ _ _ _ hp => False.elim hp) (fun v9 w9 H locs hp hlw hP hD hS => ?_)
        obtain ⟨rfl, rfl⟩ := hp
        have hP : va_P (gD G) vwC (wMR G h dg mp ml th n t pl pn xy pt sz rs ou wr sl (n5 t n P) fk fp va oa oc ok xs ys) H := hP
        have hD : va_D A (wMR G h dg mp ml th n t pl pn xy pt sz rs ou wr sl (n5 t n P) fk fp va oa oc ok xs ys) := hD
        refine W.eq (g2 := F0 mm 319 ls [.int (toI (hr t n (n5 t n P)))]) rfl ?_
        refine y_call (y_runS (As := [.int (toI (hr t n (n5 t n P)))]) (rest := []) hx hb hml hown (c_M_isSign l G  (toI (hr t n (n5 t n P))) ) (gS (n := 1) hg tk_814 tk_815 tk_7 tk_816 (by decide +kernel) ⟨Nat.le_of_ble_eq_true rfl, Nat.le_of_ble_eq_true rfl⟩) (y_pre hE hK hP hD hS hA [] rfl rfl) rfl rfl hl.1 rfl (lv_room (Nat.le_of_ble_eq_true rfl)) d_M_number_319 ⟨Nat.le_of_ble_eq_true rfl, Nat.le_of_ble_eq_true rfl⟩) hP hD hS hA [] rfl (fun _ _ _ _ _ _ hp => False.elim hp) (fun v9 w9 H locs hp hlw hP hD hS => ?_)
        obtain ⟨rfl, rfl⟩ := hp
        have hP : va_P (gD G) vwC (wMR G h dg mp ml th n t pl pn xy pt sz rs ou wr sl (n5 t n P) fk fp va oa oc ok xs ys) H := hP
        have hD : va_D A (wMR G h dg mp ml th n t pl pn xy pt sz rs ou wr sl (n5 t n P) fk fp va oa oc ok xs ys) := hD
        refine W.eq (g2 := F0 mm 322 ls [.int (bz (isSg (toI (hr t n (n5 t n P)))))]) rfl ?_
        refine yy_if_ne (P := isSg (toI (hr t n (n5 t n P)))) (tgt := 334) hx hb d_M_number_322 (by decide) (fun c322 => ?_) (fun c322 => ?_)
        · skip
          refine lv_aload_n hx hb d_M_number_334 rfl (lv_at hl 0 rfl) ?_
          refine lv_iconst (v := nI 4) hx hb d_M_number_335 (by decide) ?_
          refine lv_iload_n hx hb d_M_number_336 rfl (lv_at hl 1 rfl) ?_
          refine y_callW (y_runV (As := [.int (nI 4), .int (nI P)]) (rest := []) hx hb hml hown (c_M_wrong l G h dg mp ml th n t pl pn xy pt sz rs ou wr sl (n5 t n P) fk fp va oa oc ok xs ys 4 P ) (gV (n := 2) hg tk_817 tk_819 (gt_s 37 (by decide +kernel) (by decide +kernel)) tk_7 tk_820 (by decide +kernel) ⟨Nat.le_of_ble_eq_true rfl, Nat.le_of_ble_eq_true rfl⟩) (va_recv hK hP (ci := 5) (q0 := 0) rfl rfl) (y_preW hE hK hP hD hS hA) rfl rfl hl.1 rfl (lv_room (Nat.le_of_ble_eq_true rfl)) d_M_number_337 ⟨Nat.le_of_ble_eq_true rfl, Nat.le_of_ble_eq_true rfl⟩) hD hS hA (fun _ _ _ _ _ _ hp => False.elim hp) (fun v9 w9 H locs hp hlw hP hD hS => ?_)
          obtain ⟨rfl, rfl⟩ := hp
          have hP : va_P (gD G) vwC (wMR G h dg mp ml th n t pl pn xy pt sz rs ou wr sl (n5 t n P) 4 P va oa oc ok xs ys) H := hP
          have hD : va_D A (wMR G h dg mp ml th n t pl pn xy pt sz rs ou wr sl (n5 t n P) 4 P va oa oc ok xs ys) := hD
          refine W.eq (g2 := F0 mm 340 ls [.int (nI 0)]) rfl ?_
          exact yr_z (ws := wMR G h dg mp ml th n t pl pn xy pt sz rs ou wr sl (n5 t n P) 4 P va oa oc ok xs ys) hx hb hrt (rfl) hlocks (Or.inr ⟨_, _, _, by rw [← hPe]; unfold numR; rw [if_neg (by rw [hnu]; decide)]; rw [if_neg hxb, if_pos (by first | exact Or.inr (Or.inl ((ch_h _ (Nat.lt_succ_of_le (hr_le ht _ _))).2.1.symm.trans c302)) | (refine Or.inr (Or.inr ?_); rw [ch_nu _ (Nat.lt_succ_of_le (hr_le ht _ _))]; first | (rw [← (ch_h _ (Nat.lt_succ_of_le (hr_le ht _ _))).2.2.1, c312, Bool.or_true, Bool.true_or]) | (rw [← (ch_g _ (Nat.lt_succ_of_le (hr_le ht _ _))), c322, Bool.true_or, Bool.true_or]) | (rw [decide_eq_true c331, Bool.or_true])))], rfl, rfl⟩) rfl hK hP hD hS d_M_number_340
        · skip
          refine lv_aload_n hx hb d_M_number_325 rfl (lv_at hl 0 rfl) ?_
          refine y_callW (y_runV (As := []) (rest := []) hx hb hml hown (c_M_here l G h dg mp ml th n t pl pn xy pt sz rs ou wr sl (n5 t n P) fk fp va oa oc ok xs ys  (by omega) (by omega) (ht)) (gV (n := 0) hg tk_797 tk_799 (gt_s 35 (by decide +kernel) (by decide +kernel)) tk_7 tk_800 (by decide +kernel) ⟨Nat.le_of_ble_eq_true rfl, Nat.le_of_ble_eq_true rfl⟩) (va_recv hK hP (ci := 5) (q0 := 0) rfl rfl) (y_preW hE hK hP hD hS hA) rfl rfl hl.1 rfl (lv_room (Nat.le_of_ble_eq_true rfl)) d_M_number_326 ⟨Nat.le_of_ble_eq_true rfl, Nat.le_of_ble_eq_true rfl⟩) hD hS hA (fun _ _ _ _ _ _ hp => False.elim hp) (fun v9 w9 H locs hp hlw hP hD hS => ?_)
          obtain ⟨rfl, rfl⟩ := hp
          have hP : va_P (gD G) vwC (wMR G h dg mp ml th n t pl pn xy pt sz rs ou wr sl (n5 t n P) fk fp va oa oc ok xs ys) H := hP
          have hD : va_D A (wMR G h dg mp ml th n t pl pn xy pt sz rs ou wr sl (n5 t n P) fk fp va oa oc ok xs ys) := hD
          refine W.eq (g2 := F0 mm 329 ls [.int (toI (hr t n (n5 t n P)))]) rfl ?_
          refine lv_bipush (v := nI 46) hx hb d_M_number_329 (by decide) ?_
          refine yh_icmp_ne (a := hr t n (n5 t n P)) (b := 46) (tgt := 341) hx hb d_M_number_331 (by decide) (hr_le ht _ _) (by omega) (fun c331 => ?_) (fun c331 => ?_)
          · skip
            exact J341 z pw (hz) (hnu) (hxb) (hpw) (hp1) (hp2) (by rw [(ch_h _ (Nat.lt_succ_of_le (hr_le ht _ _))).2.1] at c302; rw [(ch_h _ (Nat.lt_succ_of_le (hr_le ht _ _))).2.2.1] at c312; rw [(ch_g _ (Nat.lt_succ_of_le (hr_le ht _ _)))] at c322; intro q9; rcases q9 with q9 | q9 | q9; exact hA0 q9; (rw [c302] at q9; exact absurd q9 (by decide)); (rw [ch_nu _ (Nat.lt_succ_of_le (hr_le ht _ _)), c322, c312, decide_eq_false c331] at q9; exact absurd q9 (by decide))) _ _ _ hP hD hS (lv_sub hl [0, 1, 2, 3, 4, 5, 6] (rfl))
          · skip
            refine lv_aload_n hx hb d_M_number_334 rfl (lv_at hl 0 rfl) ?_
            refine lv_iconst (v := nI 4) hx hb d_M_number_335 (by decide) ?_
            refine lv_iload_n hx hb d_M_number_336 rfl (lv_at hl 1 rfl) ?_
            refine y_callW (y_runV (As := [.int (nI 4), .int (nI P)]) (rest := []) hx hb hml hown (c_M_wrong l G h dg mp ml th n t pl pn xy pt sz rs ou wr sl (n5 t n P) fk fp va oa oc ok xs ys 4 P ) (gV (n := 2) hg tk_817 tk_819 (gt_s 37 (by decide +kernel) (by decide +kernel)) tk_7 tk_820 (by decide +kernel) ⟨Nat.le_of_ble_eq_true rfl, Nat.le_of_ble_eq_true rfl⟩) (va_recv hK hP (ci := 5) (q0 := 0) rfl rfl) (y_preW hE hK hP hD hS hA) rfl rfl hl.1 rfl (lv_room (Nat.le_of_ble_eq_true rfl)) d_M_number_337 ⟨Nat.le_of_ble_eq_true rfl, Nat.le_of_ble_eq_true rfl⟩) hD hS hA (fun _ _ _ _ _ _ hp => False.elim hp) (fun v9 w9 H locs hp hlw hP hD hS => ?_)
            obtain ⟨rfl, rfl⟩ := hp
            have hP : va_P (gD G) vwC (wMR G h dg mp ml th n t pl pn xy pt sz rs ou wr sl (n5 t n P) 4 P va oa oc ok xs ys) H := hP
            have hD : va_D A (wMR G h dg mp ml th n t pl pn xy pt sz rs ou wr sl (n5 t n P) 4 P va oa oc ok xs ys) := hD
            refine W.eq (g2 := F0 mm 340 ls [.int (nI 0)]) rfl ?_
            exact yr_z (ws := wMR G h dg mp ml th n t pl pn xy pt sz rs ou wr sl (n5 t n P) 4 P va oa oc ok xs ys) hx hb hrt (rfl) hlocks (Or.inr ⟨_, _, _, by rw [← hPe]; unfold numR; rw [if_neg (by rw [hnu]; decide)]; rw [if_neg hxb, if_pos (by first | exact Or.inr (Or.inl ((ch_h _ (Nat.lt_succ_of_le (hr_le ht _ _))).2.1.symm.trans c302)) | (refine Or.inr (Or.inr ?_); rw [ch_nu _ (Nat.lt_succ_of_le (hr_le ht _ _))]; first | (rw [← (ch_h _ (Nat.lt_succ_of_le (hr_le ht _ _))).2.2.1, c312, Bool.or_true, Bool.true_or]) | (rw [← (ch_g _ (Nat.lt_succ_of_le (hr_le ht _ _))), c322, Bool.true_or, Bool.true_or]) | (rw [decide_eq_true c331, Bool.or_true])))], rfl, rfl⟩) rfl hK hP hD hS d_M_number_340
  have J230 : ∀ (n9 : Nat) (z : Bool) (y : Bool) (i : Nat) (e : Nat) (hm9 : n5 t n P - i < n9) (hz : z = decide (hr t n P = 45)) (hnu : nuN (hr t n P) = true) (hA0 : ¬ nA t n P = 0) (hnx : nX t n P) (hxb : ¬ nXb t n P) (hy : y = decide (hr t n (n4 t n P + 1) = 45)) (hi1 : ps t n (n4 t n P + 1) ≤ i) (hi2 : i ≤ n5 t n P) (he : e ≤ 100000009) (hgx : exG t (n5 t n P - ps t n (n4 t n P + 1)) (ps t n (n4 t n P + 1)) 0 = exG t (n5 t n P - i) i e) (hdd : ∀ j, ps t n (n4 t n P + 1) ≤ j → j < n5 t n P → diN (t j) = true) (H : Heap) (locs : List Loc) (ls : Array Slot), va_P (gD G) vwC (wMR G h dg mp ml th n t pl pn xy pt sz rs ou wr sl (n5 t n P) fk fp va oa oc ok xs ys) H → va_D A (wMR G h dg mp ml th n t pl pn xy pt sz rs ou wr sl (n5 t n P) fk fp va oa oc ok xs ys) → va_S A sx.heap H locs → lv_has ls 12 [(0, .ref (h 0)), (1, .int (nI P)), (2, .int (bz z)), (3, .int (nI (n1 t n P))), (4, .int (nI (n2 t n P - n1 t n P))), (6, .int (nI (n4 t n P))), (7, .long (lN e)), (9, .int (bz y)), (11, .int (nI i))] → W pg l ev (yR 4 82) sx mm ([.ref (h 0)] : List Value).toArray bl mt cd H locs 0 0 (yMQ bl G A (wMR G h dg mp ml th n t pl pn xy pt sz rs ou wr sl p fk fp va oa oc ok xs ys).length (fun v w => (∃ q x, (numR t n dg (rn blN t n p) = .inr (q, x)) ∧ v = some (.int (nI 1)) ∧ w = wMR G h dg mp ml th n t pl pn xy pt sz rs ou wr sl q fk fp x oa oc ok xs ys) ∨ (∃ a b q, (numR t n dg (rn blN t n p) = .inl (a, b)) ∧ v = some (.int (nI 0)) ∧ w = wMR G h dg mp ml th n t pl pn xy pt sz rs ou wr sl q a b va oa oc ok xs ys)) (fun _ _ => False) ([.ref (h 0)] : List Value).toArray sx) (F0 mm 230 ls []) := by
    intro n9
    induction n9 with
    | zero => intro z y i e hm9; exact absurd hm9 (Nat.not_lt_zero _)
    | succ n9 ih9 =>
      intro z y i e hm9 hz hnu hA0 hnx hxb hy hi1 hi2 he hgx hdd H locs ls hP hD hS hl
      refine lv_iload hx hb d_M_number_230 (lv_at hl 8 rfl) ?_
      refine lv_aload_n hx hb d_M_number_232 rfl (lv_at hl 0 rfl) ?_
      refine va_get (D := gD G) (ci := 5) (v := .int (nI (n5 t n P))) (C := "WordShapesModel") (T := TM) (N := 24) hx hb hg iw_M hown hK hP 0 rfl rfl 17 (by decide) (hg _ tk_700) (fun _ h9 => h9) rfl d_M_number_233 ?_
      refine yn_icmp_ge (a := i) (b := n5 t n P) (tgt := 280) hx hb d_M_number_236 (by decide) (by omega) (by omega) (fun c236 => ?_) (fun c236 => ?_)
      · skip
        refine lv_iload hx hb d_M_number_280 (lv_at hl 7 rfl) ?_
        refine yy_if_eq (P := y) (tgt := 291) hx hb d_M_number_282 (by decide) (fun c282 => ?_) (fun c282 => ?_)
        · skip
          have hnp : nP t n P = (e : Int) := by unfold nP; rw [if_pos hnx, if_neg (of_decide_eq_false (hy.symm.trans c282)), hgx, exG_done (by omega)]
          refine lv_lload hx hb d_M_number_291 (lv_at hl 6 rfl) ?_
          refine lv_lstore (lv' := [(7, .long (lN e)), (0, .ref (h 0)), (1, .int (nI P)), (2, .int (bz z)), (3, .int (nI (n1 t n P))), (4, .int (nI (n2 t n P - n1 t n P))), (6, .int (nI (n4 t n P))), (9, .int (bz y)), (11, .int (nI i))]) hx hb d_M_number_293 hl (by decide) rfl (fun ls hl => ?_)
          exact J295 z (lN e) (hz) (hnu) (hA0 ) (fun q9 => hxb q9.2) (by rw [hnp]; first | exact lN_nT (by omega) | exact lN_T (by omega)) (by rw [hnp]; omega) (by rw [hnp]; omega) _ _ _ hP hD hS (lv_sub hl [1, 2, 3, 4, 5, 6, 0] (rfl))
        · skip
          have hnp : nP t n P = -(e : Int) := by unfold nP; rw [if_pos hnx, if_pos (of_decide_eq_true (hy.symm.trans c282)), hgx, exG_done (by omega)]
          refine lv_lload hx hb d_M_number_285 (lv_at hl 6 rfl) ?_
          refine lv_lneg hx hb d_M_number_287 ?_
          refine lv_goto (tgt := 293) hx hb d_M_number_288 (by decide) ?_
          refine lv_lstore (lv' := [(7, .long (-(lN e))), (0, .ref (h 0)), (1, .int (nI P)), (2, .int (bz z)), (3, .int (nI (n1 t n P))), (4, .int (nI (n2 t n P - n1 t n P))), (6, .int (nI (n4 t n P))), (9, .int (bz y)), (11, .int (nI i))]) hx hb d_M_number_293 hl (by decide) rfl (fun ls hl => ?_)
          exact J295 z (-(lN e)) (hz) (hnu) (hA0 ) (fun q9 => hxb q9.2) (by rw [hnp]; first | exact lN_nT (by omega) | exact lN_T (by omega)) (by rw [hnp]; omega) (by rw [hnp]; omega) _ _ _ hP hD hS (lv_sub hl [1, 2, 3, 4, 5, 6, 0] (rfl))
      · skip
        have hdi := di_lo (hdd i hi1 c236)
        refine lv_lload hx hb d_M_number_239 (lv_at hl 6 rfl) ?_
        refine lv_ldc2 (v := lN 10000000) hx hb hown (hg _ tk_869) d_M_number_241 ?_
        refine yl_le (a := e) (b := 10000000) (tgt := 253) hx hb d_M_number_244 d_M_number_245 (by decide) (by omega) (by omega) (fun c245 => ?_) (fun c245 => ?_)
        · skip
          refine lv_ldc2 (v := lN 10) hx hb hown (hg _ tk_870) d_M_number_253 ?_
          refine lv_lload hx hb d_M_number_256 (lv_at hl 6 rfl) ?_
          refine lv_lmul hx hb d_M_number_258 ?_
          refine y_eql (lN_mul _ _) ?_
          refine lv_aload_n hx hb d_M_number_259 rfl (lv_at hl 0 rfl) ?_
          refine va_get (D := gD G) (ci := 5) (v := .ref (h 3)) (C := "WordShapesModel") (T := TM) (N := 24) hx hb hg iw_M hown hK hP 0 rfl rfl 7 (by decide) (hg _ tk_690) (fun _ h9 => h9) rfl d_M_number_260 ?_
          refine lv_iload hx hb d_M_number_263 (lv_at hl 8 rfl) ?_
          refine yn_iald hx hb hK hP 3 0 rfl rfl (j := i) (x := nI (t i)) (rfl) (by omega) (by omega) d_M_number_265 ?_
          refine lv_i2l hx hb d_M_number_266 (v := (nI (t i)).toInt64) rfl ?_
          refine y_eql (y := lN (t i)) (i2lN (by have := ht i; omega)) ?_
          refine lv_ladd hx hb d_M_number_267 ?_
          refine y_eql (lN_add _ _) ?_
          refine lv_ldc2 (v := lN 48) hx hb hown (hg _ tk_871) d_M_number_268 ?_
          refine lv_lsub hx hb d_M_number_271 ?_
          refine y_eql (y := lN (10 * e + t i - 48)) (lN_sub (by omega)) ?_
          refine lv_lstore (lv' := [(7, .long (lN (10 * e + t i - 48))), (0, .ref (h 0)), (1, .int (nI P)), (2, .int (bz z)), (3, .int (nI (n1 t n P))), (4, .int (nI (n2 t n P - n1 t n P))), (6, .int (nI (n4 t n P))), (9, .int (bz y)), (11, .int (nI i))]) hx hb d_M_number_272 hl (by decide) rfl (fun ls hl => ?_)
          refine lv_iinc (v := nI (i + 1)) (lv' := [(11, .int (nI (i + 1))), (7, .long (lN (10 * e + t i - 48))), (0, .ref (h 0)), (1, .int (nI P)), (2, .int (bz z)), (3, .int (nI (n1 t n P))), (4, .int (nI (n2 t n P - n1 t n P))), (6, .int (nI (n4 t n P))), (9, .int (bz y))]) hx hb d_M_number_274 hl (k := 8) rfl (y_inc _) (by decide) rfl (fun ls hl => ?_)
          refine lv_goto (tgt := 230) hx hb d_M_number_277 (by decide) ?_
          exact ih9 z y (i + 1) (10 * e + t i - 48) (by omega) (hz) (hnu) (hA0) (hnx) (hxb) (hy) (by omega) (by omega) (by omega) (hgx.trans ((exG_step c236).trans (by first | rw [if_pos c245] | rw [if_neg (by omega)]))) (hdd) _ _ _ hP hD hS (lv_sub hl [2, 3, 4, 5, 6, 7, 1, 8, 0] (rfl))
        · skip
          refine lv_lload hx hb d_M_number_248 (lv_at hl 6 rfl) ?_
          refine lv_goto (tgt := 272) hx hb d_M_number_250 (by decide) ?_
          refine lv_lstore (lv' := [(7, .long (lN e)), (0, .ref (h 0)), (1, .int (nI P)), (2, .int (bz z)), (3, .int (nI (n1 t n P))), (4, .int (nI (n2 t n P - n1 t n P))), (6, .int (nI (n4 t n P))), (9, .int (bz y)), (11, .int (nI i))]) hx hb d_M_number_272 hl (by decide) rfl (fun ls hl => ?_)
          refine lv_iinc (v := nI (i + 1)) (lv' := [(11, .int (nI (i + 1))), (7, .long (lN e)), (0, .ref (h 0)), (1, .int (nI P)), (2, .int (bz z)), (3, .int (nI (n1 t n P))), (4, .int (nI (n2 t n P - n1 t n P))), (6, .int (nI (n4 t n P))), (9, .int (bz y))]) hx hb d_M_number_274 hl (k := 8) rfl (y_inc _) (by decide) rfl (fun ls hl => ?_)
          refine lv_goto (tgt := 230) hx hb d_M_number_277 (by decide) ?_
          exact ih9 z y (i + 1) e (by omega) (hz) (hnu) (hA0) (hnx) (hxb) (hy) (by omega) (by omega) (by omega) (hgx.trans ((exG_step c236).trans (by first | rw [if_pos c245] | rw [if_neg (by omega)]))) (hdd) _ _ _ hP hD hS (lv_sub hl [2, 3, 4, 5, 6, 7, 1, 8, 0] (rfl))
  have J206 : ∀ (z : Bool) (y : Bool) (hz : z = decide (hr t n P = 45)) (hnu : nuN (hr t n P) = true) (hA0 : ¬ nA t n P = 0) (hnx : nX t n P) (h105 : n4 t n P < n) (hy : y = decide (hr t n (n4 t n P + 1) = 45)) (H : Heap) (locs : List Loc) (ls : Array Slot), va_P (gD G) vwC (wMR G h dg mp ml th n t pl pn xy pt sz rs ou wr sl (ps t n (n4 t n P + 1)) fk fp va oa oc ok xs ys) H → va_D A (wMR G h dg mp ml th n t pl pn xy pt sz rs ou wr sl (ps t n (n4 t n P + 1)) fk fp va oa oc ok xs ys) → va_S A sx.heap H locs → lv_has ls 12 [(0, .ref (h 0)), (1, .int (nI P)), (2, .int (bz z)), (3, .int (nI (n1 t n P))), (4, .int (nI (n2 t n P - n1 t n P))), (6, .int (nI (n4 t n P))), (7, .long (lN 0)), (9, .int (bz y))] → W pg l ev (yR 4 82) sx mm ([.ref (h 0)] : List Value).toArray bl mt cd H locs 0 0 (yMQ bl G A (wMR G h dg mp ml th n t pl pn xy pt sz rs ou wr sl p fk fp va oa oc ok xs ys).length (fun v w => (∃ q x, (numR t n dg (rn blN t n p) = .inr (q, x)) ∧ v = some (.int (nI 1)) ∧ w = wMR G h dg mp ml th n t pl pn xy pt sz rs ou wr sl q fk fp x oa oc ok xs ys) ∨ (∃ a b q, (numR t n dg (rn blN t n p) = .inl (a, b)) ∧ v = some (.int (nI 0)) ∧ w = wMR G h dg mp ml th n t pl pn xy pt sz rs ou wr sl q a b va oa oc ok xs ys)) (fun _ _ => False) ([.ref (h 0)] : List Value).toArray sx) (F0 mm 206 ls []) := by
    intro z y hz hnu hA0 hnx h105 hy H locs ls hP hD hS hl
    have hps1 : ps t n (n4 t n P + 1) ≤ n := ps_le h105
    refine lv_aload_n hx hb d_M_number_206 rfl (lv_at hl 0 rfl) ?_
    refine va_get (D := gD G) (ci := 5) (v := .int (nI (ps t n (n4 t n P + 1)))) (C := "WordShapesModel") (T := TM) (N := 24) hx hb hg iw_M hown hK hP 0 rfl rfl 17 (by decide) (hg _ tk_700) (fun _ h9 => h9) rfl d_M_number_207 ?_
    refine lv_istore (lv' := [(10, .int (nI (ps t n (n4 t n P + 1)))), (0, .ref (h 0)), (1, .int (nI P)), (2, .int (bz z)), (3, .int (nI (n1 t n P))), (4, .int (nI (n2 t n P - n1 t n P))), (6, .int (nI (n4 t n P))), (7, .long (lN 0)), (9, .int (bz y))]) hx hb d_M_number_210 hl (by decide) rfl (fun ls hl => ?_)
    refine lv_aload_n hx hb d_M_number_212 rfl (lv_at hl 1 rfl) ?_
    refine y_callW (y_runV (As := []) (rest := []) hx hb hml hown (c_M_digitsFrom l G h dg mp ml th n t pl pn xy pt sz rs ou wr sl (ps t n (n4 t n P + 1)) fk fp va oa oc ok xs ys  (by omega) (by omega) (ht)) (gV (n := 0) hg tk_865 tk_867 (gt_s 49 (by decide +kernel) (by decide +kernel)) tk_7 tk_868 (by decide +kernel) ⟨Nat.le_of_ble_eq_true rfl, Nat.le_of_ble_eq_true rfl⟩) (va_recv hK hP (ci := 5) (q0 := 0) rfl rfl) (y_preW hE hK hP hD hS hA) rfl rfl hl.1 rfl (lv_room (Nat.le_of_ble_eq_true rfl)) d_M_number_213 ⟨Nat.le_of_ble_eq_true rfl, Nat.le_of_ble_eq_true rfl⟩) hD hS hA (fun _ _ _ _ _ _ hp => False.elim hp) (fun v9 w9 H locs hp hlw hP hD hS => ?_)
    obtain ⟨rfl, rfl⟩ := hp
    have hP : va_P (gD G) vwC (wMR G h dg mp ml th n t pl pn xy pt sz rs ou wr sl (rn diN t n (ps t n (n4 t n P + 1))) fk fp va oa oc ok xs ys) H := hP
    have hD : va_D A (wMR G h dg mp ml th n t pl pn xy pt sz rs ou wr sl (rn diN t n (ps t n (n4 t n P + 1))) fk fp va oa oc ok xs ys) := hD
    refine W.eq (g2 := F0 mm 216 ls [.int (nI (rn diN t n (ps t n (n4 t n P + 1)) - (ps t n (n4 t n P + 1))))]) rfl ?_
    have e5 : n5 t n P = rn diN t n (ps t n (n4 t n P + 1)) := if_pos hnx
    rw [← e5] at hP hD ⊢
    refine yn_if_ne (a := n5 t n P - ps t n (n4 t n P + 1)) (tgt := 226) hx hb d_M_number_216 (by decide) (by omega) (fun c216 => ?_) (fun c216 => ?_)
    · skip
      refine lv_iload hx hb d_M_number_226 (lv_at hl 0 rfl) ?_
      refine lv_istore (lv' := [(11, .int (nI (ps t n (n4 t n P + 1)))), (10, .int (nI (ps t n (n4 t n P + 1)))), (0, .ref (h 0)), (1, .int (nI P)), (2, .int (bz z)), (3, .int (nI (n1 t n P))), (4, .int (nI (n2 t n P - n1 t n P))), (6, .int (nI (n4 t n P))), (7, .long (lN 0)), (9, .int (bz y))]) hx hb d_M_number_228 hl (by decide) rfl (fun ls hl => ?_)
      exact J230 _ z y (ps t n (n4 t n P + 1)) 0 (Nat.lt_succ_self _) (hz) (hnu) (hA0) (hnx) (fun q9 => c216 (by rw [e5, q9]; omega)) (hy) (Nat.le_refl _) (by rw [e5]; exact rn_ge hps1) (by omega) (rfl) (fun j h1 h2 => rn_all (n := n) h1 (by rw [← e5]; exact h2)) _ _ _ hP hD hS (lv_sub hl [2, 3, 4, 5, 6, 7, 8, 9, 0] (rfl))
    · skip
      refine lv_aload_n hx hb d_M_number_219 rfl (lv_at hl 1 rfl) ?_
      refine lv_iconst (v := nI 4) hx hb d_M_number_220 (by decide) ?_
      refine lv_iload_n hx hb d_M_number_221 rfl (lv_at hl 2 rfl) ?_
      refine y_callW (y_runV (As := [.int (nI 4), .int (nI P)]) (rest := []) hx hb hml hown (c_M_wrong l G h dg mp ml th n t pl pn xy pt sz rs ou wr sl (n5 t n P) fk fp va oa oc ok xs ys 4 P ) (gV (n := 2) hg tk_817 tk_819 (gt_s 37 (by decide +kernel) (by decide +kernel)) tk_7 tk_820 (by decide +kernel) ⟨Nat.le_of_ble_eq_true rfl, Nat.le_of_ble_eq_true rfl⟩) (va_recv hK hP (ci := 5) (q0 := 0) rfl rfl) (y_preW hE hK hP hD hS hA) rfl rfl hl.1 rfl (lv_room (Nat.le_of_ble_eq_true rfl)) d_M_number_222 ⟨Nat.le_of_ble_eq_true rfl, Nat.le_of_ble_eq_true rfl⟩) hD hS hA (fun _ _ _ _ _ _ hp => False.elim hp) (fun v9 w9 H locs hp hlw hP hD hS => ?_)
      obtain ⟨rfl, rfl⟩ := hp
      have hP : va_P (gD G) vwC (wMR G h dg mp ml th n t pl pn xy pt sz rs ou wr sl (n5 t n P) 4 P va oa oc ok xs ys) H := hP
      have hD : va_D A (wMR G h dg mp ml th n t pl pn xy pt sz rs ou wr sl (n5 t n P) 4 P va oa oc ok xs ys) := hD
      refine W.eq (g2 := F0 mm 225 ls [.int (nI 0)]) rfl ?_
      exact yr_z (ws := wMR G h dg mp ml th n t pl pn xy pt sz rs ou wr sl (n5 t n P) 4 P va oa oc ok xs ys) hx hb hrt (rfl) hlocks (Or.inr ⟨_, _, _, by rw [← hPe]; unfold numR; rw [if_neg (by rw [hnu]; decide)]; rw [if_pos ⟨hnx, by show rn diN t n (ps t n (n4 t n P + 1)) = ps t n (n4 t n P + 1); have := rn_ge (P := diN) (t := t) hps1; omega⟩], rfl, rfl⟩) rfl hK hP hD hS d_M_number_225
  have J184 : ∀ (z : Bool) (y : Bool) (hz : z = decide (hr t n P = 45)) (hnu : nuN (hr t n P) = true) (hA0 : ¬ nA t n P = 0) (hnx : nX t n P) (h105 : n4 t n P < n) (hy : y = decide (hr t n (n4 t n P + 1) = 45)) (H : Heap) (locs : List Loc) (ls : Array Slot), va_P (gD G) vwC (wMR G h dg mp ml th n t pl pn xy pt sz rs ou wr sl (n4 t n P + 1) fk fp va oa oc ok xs ys) H → va_D A (wMR G h dg mp ml th n t pl pn xy pt sz rs ou wr sl (n4 t n P + 1) fk fp va oa oc ok xs ys) → va_S A sx.heap H locs → lv_has ls 12 [(0, .ref (h 0)), (1, .int (nI P)), (2, .int (bz z)), (3, .int (nI (n1 t n P))), (4, .int (nI (n2 t n P - n1 t n P))), (6, .int (nI (n4 t n P))), (7, .long (lN 0))] → W pg l ev (yR 4 82) sx mm ([.ref (h 0)] : List Value).toArray bl mt cd H locs 0 0 (yMQ bl G A (wMR G h dg mp ml th n t pl pn xy pt sz rs ou wr sl p fk fp va oa oc ok xs ys).length (fun v w => (∃ q x, (numR t n dg (rn blN t n p) = .inr (q, x)) ∧ v = some (.int (nI 1)) ∧ w = wMR G h dg mp ml th n t pl pn xy pt sz rs ou wr sl q fk fp x oa oc ok xs ys) ∨ (∃ a b q, (numR t n dg (rn blN t n p) = .inl (a, b)) ∧ v = some (.int (nI 0)) ∧ w = wMR G h dg mp ml th n t pl pn xy pt sz rs ou wr sl q a b va oa oc ok xs ys)) (fun _ _ => False) ([.ref (h 0)] : List Value).toArray sx) (F0 mm 184 ls [.int (bz y)]) := by
    intro z y hz hnu hA0 hnx h105 hy H locs ls hP hD hS hl
    refine lv_istore (lv' := [(9, .int (bz y)), (0, .ref (h 0)), (1, .int (nI P)), (2, .int (bz z)), (3, .int (nI (n1 t n P))), (4, .int (nI (n2 t n P - n1 t n P))), (6, .int (nI (n4 t n P))), (7, .long (lN 0))]) hx hb d_M_number_184 hl (by decide) rfl (fun ls hl => ?_)
    refine lv_aload_n hx hb d_M_number_186 rfl (lv_at hl 1 rfl) ?_
    refine y_callW (y_runV (As := []) (rest := []) hx hb hml hown (c_M_here l G h dg mp ml th n t pl pn xy pt sz rs ou wr sl (n4 t n P + 1) fk fp va oa oc ok xs ys  (by omega) (by omega) (ht)) (gV (n := 0) hg tk_797 tk_799 (gt_s 35 (by decide +kernel) (by decide +kernel)) tk_7 tk_800 (by decide +kernel) ⟨Nat.le_of_ble_eq_true rfl, Nat.le_of_ble_eq_true rfl⟩) (va_recv hK hP (ci := 5) (q0 := 0) rfl rfl) (y_preW hE hK hP hD hS hA) rfl rfl hl.1 rfl (lv_room (Nat.le_of_ble_eq_true rfl)) d_M_number_187 ⟨Nat.le_of_ble_eq_true rfl, Nat.le_of_ble_eq_true rfl⟩) hD hS hA (fun _ _ _ _ _ _ hp => False.elim hp) (fun v9 w9 H locs hp hlw hP hD hS => ?_)
    obtain ⟨rfl, rfl⟩ := hp
    have hP : va_P (gD G) vwC (wMR G h dg mp ml th n t pl pn xy pt sz rs ou wr sl (n4 t n P + 1) fk fp va oa oc ok xs ys) H := hP
    have hD : va_D A (wMR G h dg mp ml th n t pl pn xy pt sz rs ou wr sl (n4 t n P + 1) fk fp va oa oc ok xs ys) := hD
    refine W.eq (g2 := F0 mm 190 ls [.int (toI (hr t n (n4 t n P + 1)))]) rfl ?_
    refine y_call (y_runS (As := [.int (toI (hr t n (n4 t n P + 1)))]) (rest := []) hx hb hml hown (c_M_isSign l G  (toI (hr t n (n4 t n P + 1))) ) (gS (n := 1) hg tk_814 tk_815 tk_7 tk_816 (by decide +kernel) ⟨Nat.le_of_ble_eq_true rfl, Nat.le_of_ble_eq_true rfl⟩) (y_pre hE hK hP hD hS hA [] rfl rfl) rfl rfl hl.1 rfl (lv_room (Nat.le_of_ble_eq_true rfl)) d_M_number_190 ⟨Nat.le_of_ble_eq_true rfl, Nat.le_of_ble_eq_true rfl⟩) hP hD hS hA [] rfl (fun _ _ _ _ _ _ hp => False.elim hp) (fun v9 w9 H locs hp hlw hP hD hS => ?_)
    obtain ⟨rfl, rfl⟩ := hp
    have hP : va_P (gD G) vwC (wMR G h dg mp ml th n t pl pn xy pt sz rs ou wr sl (n4 t n P + 1) fk fp va oa oc ok xs ys) H := hP
    have hD : va_D A (wMR G h dg mp ml th n t pl pn xy pt sz rs ou wr sl (n4 t n P + 1) fk fp va oa oc ok xs ys) := hD
    refine W.eq (g2 := F0 mm 193 ls [.int (bz (isSg (toI (hr t n (n4 t n P + 1)))))]) rfl ?_
    refine yy_if_eq (P := isSg (toI (hr t n (n4 t n P + 1)))) (tgt := 206) hx hb d_M_number_193 (by decide) (fun c193 => ?_) (fun c193 => ?_)
    · skip
      have hsg2 : ¬ sgN (hr t n (n4 t n P + 1)) = true := by rw [← (ch_g _ (Nat.lt_succ_of_le (hr_le ht _ _))), c193]; decide
      have e_ : ps t n (n4 t n P + 1) = n4 t n P + 1 := if_neg hsg2
      rw [← e_] at hP hD
      exact J206 z y (hz) (hnu) (hA0) (hnx) (h105) (hy) _ _ _ hP hD hS (lv_sub hl [1, 2, 3, 4, 5, 6, 7, 0] (rfl))
    · skip
      have hsg2 : sgN (hr t n (n4 t n P + 1)) = true := (ch_g _ (Nat.lt_succ_of_le (hr_le ht _ _))).symm.trans c193
      have hsl8 : n4 t n P + 1 < n := by rcases Nat.lt_or_ge (n4 t n P + 1) n with q9 | q9; exact q9; exact absurd hsg2 (by unfold hr; rw [if_neg (by omega)]; decide)
      refine lv_aload_n hx hb d_M_number_196 rfl (lv_at hl 1 rfl) ?_
      refine lv_dup hx hb d_M_number_197 rfl ?_
      refine va_get (D := gD G) (ci := 5) (v := .int (nI (n4 t n P + 1))) (C := "WordShapesModel") (T := TM) (N := 24) hx hb hg iw_M hown hK hP 0 rfl rfl 17 (by decide) (hg _ tk_700) (fun _ h9 => h9) rfl d_M_number_198 ?_
      refine lv_iconst (v := nI 1) hx hb d_M_number_201 (by decide) ?_
      refine lv_iadd hx hb d_M_number_202 ?_
      refine y_eqi (nI_add _ _) ?_
      refine va_put (D := gD G) (ci := 5) (v := .int (nI (n4 t n P + 1 + 1))) (ty := .int) (C := "WordShapesModel") (T := TM) (N := 24) hx hb hg iw_M ft_M fo_M nm_M hown hK hP hD hS 0 rfl rfl 17 (by decide) (hg _ tk_700) (fun _ h9 => h9) rfl (by decide +kernel) (rfl) (rfl) (Nat.le_of_ble_eq_true rfl) d_M_number_203 (fun H locs hP hD hS => ?_)
      have hP : va_P (gD G) vwC (wMR G h dg mp ml th n t pl pn xy pt sz rs ou wr sl (n4 t n P + 1 + 1) fk fp va oa oc ok xs ys) H := hP
      have hD : va_D A (wMR G h dg mp ml th n t pl pn xy pt sz rs ou wr sl (n4 t n P + 1 + 1) fk fp va oa oc ok xs ys) := hD
      have e_ : ps t n (n4 t n P + 1) = n4 t n P + 1 + 1 := if_pos hsg2
      rw [← e_] at hP hD
      exact J206 z y (hz) (hnu) (hA0) (hnx) (h105) (hy) _ _ _ hP hD hS (lv_sub hl [1, 2, 3, 4, 5, 6, 7, 0] (rfl))
  have J160 : ∀ (z : Bool) (hz : z = decide (hr t n P = 45)) (hnu : nuN (hr t n P) = true) (hA0 : ¬ nA t n P = 0) (hnx : nX t n P) (H : Heap) (locs : List Loc) (ls : Array Slot), va_P (gD G) vwC (wMR G h dg mp ml th n t pl pn xy pt sz rs ou wr sl (n4 t n P) fk fp va oa oc ok xs ys) H → va_D A (wMR G h dg mp ml th n t pl pn xy pt sz rs ou wr sl (n4 t n P) fk fp va oa oc ok xs ys) → va_S A sx.heap H locs → lv_has ls 12 [(0, .ref (h 0)), (1, .int (nI P)), (2, .int (bz z)), (3, .int (nI (n1 t n P))), (4, .int (nI (n2 t n P - n1 t n P))), (6, .int (nI (n4 t n P))), (7, .long (lN 0))] → W pg l ev (yR 4 82) sx mm ([.ref (h 0)] : List Value).toArray bl mt cd H locs 0 0 (yMQ bl G A (wMR G h dg mp ml th n t pl pn xy pt sz rs ou wr sl p fk fp va oa oc ok xs ys).length (fun v w => (∃ q x, (numR t n dg (rn blN t n p) = .inr (q, x)) ∧ v = some (.int (nI 1)) ∧ w = wMR G h dg mp ml th n t pl pn xy pt sz rs ou wr sl q fk fp x oa oc ok xs ys) ∨ (∃ a b q, (numR t n dg (rn blN t n p) = .inl (a, b)) ∧ v = some (.int (nI 0)) ∧ w = wMR G h dg mp ml th n t pl pn xy pt sz rs ou wr sl q a b va oa oc ok xs ys)) (fun _ _ => False) ([.ref (h 0)] : List Value).toArray sx) (F0 mm 160 ls []) := by
    intro z hz hnu hA0 hnx H locs ls hP hD hS hl
    have h105 : n4 t n P < n := by rcases hnx with y | y <;> exact hr_lt y (by decide)
    refine lv_aload_n hx hb d_M_number_160 rfl (lv_at hl 0 rfl) ?_
    refine lv_dup hx hb d_M_number_161 rfl ?_
    refine va_get (D := gD G) (ci := 5) (v := .int (nI (n4 t n P))) (C := "WordShapesModel") (T := TM) (N := 24) hx hb hg iw_M hown hK hP 0 rfl rfl 17 (by decide) (hg _ tk_700) (fun _ h9 => h9) rfl d_M_number_162 ?_
    refine lv_iconst (v := nI 1) hx hb d_M_number_165 (by decide) ?_
    refine lv_iadd hx hb d_M_number_166 ?_
    refine y_eqi (nI_add _ _) ?_
    refine va_put (D := gD G) (ci := 5) (v := .int (nI (n4 t n P + 1))) (ty := .int) (C := "WordShapesModel") (T := TM) (N := 24) hx hb hg iw_M ft_M fo_M nm_M hown hK hP hD hS 0 rfl rfl 17 (by decide) (hg _ tk_700) (fun _ h9 => h9) rfl (by decide +kernel) (rfl) (rfl) (Nat.le_of_ble_eq_true rfl) d_M_number_167 (fun H locs hP hD hS => ?_)
    have hP : va_P (gD G) vwC (wMR G h dg mp ml th n t pl pn xy pt sz rs ou wr sl (n4 t n P + 1) fk fp va oa oc ok xs ys) H := hP
    have hD : va_D A (wMR G h dg mp ml th n t pl pn xy pt sz rs ou wr sl (n4 t n P + 1) fk fp va oa oc ok xs ys) := hD
    refine lv_aload_n hx hb d_M_number_170 rfl (lv_at hl 0 rfl) ?_
    refine y_callW (y_runV (As := []) (rest := []) hx hb hml hown (c_M_here l G h dg mp ml th n t pl pn xy pt sz rs ou wr sl (n4 t n P + 1) fk fp va oa oc ok xs ys  (by omega) (by omega) (ht)) (gV (n := 0) hg tk_797 tk_799 (gt_s 35 (by decide +kernel) (by decide +kernel)) tk_7 tk_800 (by decide +kernel) ⟨Nat.le_of_ble_eq_true rfl, Nat.le_of_ble_eq_true rfl⟩) (va_recv hK hP (ci := 5) (q0 := 0) rfl rfl) (y_preW hE hK hP hD hS hA) rfl rfl hl.1 rfl (lv_room (Nat.le_of_ble_eq_true rfl)) d_M_number_171 ⟨Nat.le_of_ble_eq_true rfl, Nat.le_of_ble_eq_true rfl⟩) hD hS hA (fun _ _ _ _ _ _ hp => False.elim hp) (fun v9 w9 H locs hp hlw hP hD hS => ?_)
    obtain ⟨rfl, rfl⟩ := hp
    have hP : va_P (gD G) vwC (wMR G h dg mp ml th n t pl pn xy pt sz rs ou wr sl (n4 t n P + 1) fk fp va oa oc ok xs ys) H := hP
    have hD : va_D A (wMR G h dg mp ml th n t pl pn xy pt sz rs ou wr sl (n4 t n P + 1) fk fp va oa oc ok xs ys) := hD
    refine W.eq (g2 := F0 mm 174 ls [.int (toI (hr t n (n4 t n P + 1)))]) rfl ?_
    refine lv_bipush (v := nI 45) hx hb d_M_number_174 (by decide) ?_
    refine yh_icmp_ne (a := hr t n (n4 t n P + 1)) (b := 45) (tgt := 183) hx hb d_M_number_176 (by decide) (hr_le ht _ _) (by omega) (fun c176 => ?_) (fun c176 => ?_)
    · skip
      refine lv_iconst (v := nI 0) hx hb d_M_number_183 (by decide) ?_
      exact J184 z false (hz) (hnu) (hA0) (hnx) (h105) ((decide_eq_false c176).symm) _ _ _ hP hD hS (lv_sub hl [0, 1, 2, 3, 4, 5, 6] (rfl))
    · skip
      refine lv_iconst (v := nI 1) hx hb d_M_number_179 (by decide) ?_
      refine lv_goto (tgt := 184) hx hb d_M_number_180 (by decide) ?_
      exact J184 z true (hz) (hnu) (hA0) (hnx) (h105) ((decide_eq_true c176).symm) _ _ _ hP hD hS (lv_sub hl [0, 1, 2, 3, 4, 5, 6] (rfl))
  have J121 : ∀ (z : Bool) (hz : z = decide (hr t n P = 45)) (hnu : nuN (hr t n P) = true) (H : Heap) (locs : List Loc) (ls : Array Slot), va_P (gD G) vwC (wMR G h dg mp ml th n t pl pn xy pt sz rs ou wr sl (n4 t n P) fk fp va oa oc ok xs ys) H → va_D A (wMR G h dg mp ml th n t pl pn xy pt sz rs ou wr sl (n4 t n P) fk fp va oa oc ok xs ys) → va_S A sx.heap H locs → lv_has ls 12 [(0, .ref (h 0)), (1, .int (nI P)), (2, .int (bz z)), (3, .int (nI (n1 t n P))), (4, .int (nI (n2 t n P - n1 t n P))), (5, .int (nI (nA t n P)))] → W pg l ev (yR 4 82) sx mm ([.ref (h 0)] : List Value).toArray bl mt cd H locs 0 0 (yMQ bl G A (wMR G h dg mp ml th n t pl pn xy pt sz rs ou wr sl p fk fp va oa oc ok xs ys).length (fun v w => (∃ q x, (numR t n dg (rn blN t n p) = .inr (q, x)) ∧ v = some (.int (nI 1)) ∧ w = wMR G h dg mp ml th n t pl pn xy pt sz rs ou wr sl q fk fp x oa oc ok xs ys) ∨ (∃ a b q, (numR t n dg (rn blN t n p) = .inl (a, b)) ∧ v = some (.int (nI 0)) ∧ w = wMR G h dg mp ml th n t pl pn xy pt sz rs ou wr sl q a b va oa oc ok xs ys)) (fun _ _ => False) ([.ref (h 0)] : List Value).toArray sx) (F0 mm 121 ls []) := by
    intro z hz hnu H locs ls hP hD hS hl
    refine lv_iload hx hb d_M_number_121 (lv_at hl 5 rfl) ?_
    refine yn_if_ne (a := nA t n P) (tgt := 133) hx hb d_M_number_123 (by decide) (by omega) (fun c123 => ?_) (fun c123 => ?_)
    · skip
      refine lv_aload_n hx hb d_M_number_133 rfl (lv_at hl 0 rfl) ?_
      refine va_get (D := gD G) (ci := 5) (v := .int (nI (n4 t n P))) (C := "WordShapesModel") (T := TM) (N := 24) hx hb hg iw_M hown hK hP 0 rfl rfl 17 (by decide) (hg _ tk_700) (fun _ h9 => h9) rfl d_M_number_134 ?_
      refine lv_istore (lv' := [(6, .int (nI (n4 t n P))), (0, .ref (h 0)), (1, .int (nI P)), (2, .int (bz z)), (3, .int (nI (n1 t n P))), (4, .int (nI (n2 t n P - n1 t n P))), (5, .int (nI (nA t n P)))]) hx hb d_M_number_137 hl (by decide) rfl (fun ls hl => ?_)
      refine lv_lconst (v := lN 0) hx hb d_M_number_139 (by decide) ?_
      refine lv_lstore (lv' := [(7, .long (lN 0)), (6, .int (nI (n4 t n P))), (0, .ref (h 0)), (1, .int (nI P)), (2, .int (bz z)), (3, .int (nI (n1 t n P))), (4, .int (nI (n2 t n P - n1 t n P))), (5, .int (nI (nA t n P)))]) hx hb d_M_number_140 hl (by decide) rfl (fun ls hl => ?_)
      refine lv_aload_n hx hb d_M_number_142 rfl (lv_at hl 2 rfl) ?_
      refine y_callW (y_runV (As := []) (rest := []) hx hb hml hown (c_M_here l G h dg mp ml th n t pl pn xy pt sz rs ou wr sl (n4 t n P) fk fp va oa oc ok xs ys  (by omega) (by omega) (ht)) (gV (n := 0) hg tk_797 tk_799 (gt_s 35 (by decide +kernel) (by decide +kernel)) tk_7 tk_800 (by decide +kernel) ⟨Nat.le_of_ble_eq_true rfl, Nat.le_of_ble_eq_true rfl⟩) (va_recv hK hP (ci := 5) (q0 := 0) rfl rfl) (y_preW hE hK hP hD hS hA) rfl rfl hl.1 rfl (lv_room (Nat.le_of_ble_eq_true rfl)) d_M_number_143 ⟨Nat.le_of_ble_eq_true rfl, Nat.le_of_ble_eq_true rfl⟩) hD hS hA (fun _ _ _ _ _ _ hp => False.elim hp) (fun v9 w9 H locs hp hlw hP hD hS => ?_)
      obtain ⟨rfl, rfl⟩ := hp
      have hP : va_P (gD G) vwC (wMR G h dg mp ml th n t pl pn xy pt sz rs ou wr sl (n4 t n P) fk fp va oa oc ok xs ys) H := hP
      have hD : va_D A (wMR G h dg mp ml th n t pl pn xy pt sz rs ou wr sl (n4 t n P) fk fp va oa oc ok xs ys) := hD
      refine W.eq (g2 := F0 mm 146 ls [.int (toI (hr t n (n4 t n P)))]) rfl ?_
      refine lv_bipush (v := nI 69) hx hb d_M_number_146 (by decide) ?_
      refine yh_icmp_eq (a := hr t n (n4 t n P)) (b := 69) (tgt := 160) hx hb d_M_number_148 (by decide) (hr_le ht _ _) (by omega) (fun c148 => ?_) (fun c148 => ?_)
      · skip
        exact J160 z (hz) (hnu) (c123) (by first | exact Or.inr c148 | exact Or.inl c157) _ _ _ hP hD hS (lv_sub hl [2, 3, 4, 5, 6, 1, 0] (rfl))
      · skip
        refine lv_aload_n hx hb d_M_number_151 rfl (lv_at hl 2 rfl) ?_
        refine y_callW (y_runV (As := []) (rest := []) hx hb hml hown (c_M_here l G h dg mp ml th n t pl pn xy pt sz rs ou wr sl (n4 t n P) fk fp va oa oc ok xs ys  (by omega) (by omega) (ht)) (gV (n := 0) hg tk_797 tk_799 (gt_s 35 (by decide +kernel) (by decide +kernel)) tk_7 tk_800 (by decide +kernel) ⟨Nat.le_of_ble_eq_true rfl, Nat.le_of_ble_eq_true rfl⟩) (va_recv hK hP (ci := 5) (q0 := 0) rfl rfl) (y_preW hE hK hP hD hS hA) rfl rfl hl.1 rfl (lv_room (Nat.le_of_ble_eq_true rfl)) d_M_number_152 ⟨Nat.le_of_ble_eq_true rfl, Nat.le_of_ble_eq_true rfl⟩) hD hS hA (fun _ _ _ _ _ _ hp => False.elim hp) (fun v9 w9 H locs hp hlw hP hD hS => ?_)
        obtain ⟨rfl, rfl⟩ := hp
        have hP : va_P (gD G) vwC (wMR G h dg mp ml th n t pl pn xy pt sz rs ou wr sl (n4 t n P) fk fp va oa oc ok xs ys) H := hP
        have hD : va_D A (wMR G h dg mp ml th n t pl pn xy pt sz rs ou wr sl (n4 t n P) fk fp va oa oc ok xs ys) := hD
        refine W.eq (g2 := F0 mm 155 ls [.int (toI (hr t n (n4 t n P)))]) rfl ?_
        refine lv_bipush (v := nI 101) hx hb d_M_number_155 (by decide) ?_
        refine yh_icmp_ne (a := hr t n (n4 t n P)) (b := 101) (tgt := 295) hx hb d_M_number_157 (by decide) (hr_le ht _ _) (by omega) (fun c157 => ?_) (fun c157 => ?_)
        · skip
          have hnx : ¬ nX t n P := fun y => y.elim c157 c148
          have hnp : nP t n P = 0 := if_neg hnx
          have e_ : n5 t n P = n4 t n P := if_neg hnx
          rw [← e_] at hP hD
          exact J295 z (lN 0) (hz) (hnu) (c123) (fun q9 => hnx q9.1) (by rw [hnp]; decide) (by rw [hnp]; decide) (by rw [hnp]; decide) _ _ _ hP hD hS (lv_sub hl [2, 3, 4, 5, 6, 1, 0] (rfl))
        · skip
          exact J160 z (hz) (hnu) (c123) (by first | exact Or.inr c148 | exact Or.inl c157) _ _ _ hP hD hS (lv_sub hl [2, 3, 4, 5, 6, 1, 0] (rfl))
    · skip
      refine lv_aload_n hx hb d_M_number_126 rfl (lv_at hl 0 rfl) ?_
      refine lv_iconst (v := nI 4) hx hb d_M_number_127 (by decide) ?_
      refine lv_iload_n hx hb d_M_number_128 rfl (lv_at hl 1 rfl) ?_
      refine y_callW (y_runV (As := [.int (nI 4), .int (nI P)]) (rest := []) hx hb hml hown (c_M_wrong l G h dg mp ml th n t pl pn xy pt sz rs ou wr sl (n4 t n P) fk fp va oa oc ok xs ys 4 P ) (gV (n := 2) hg tk_817 tk_819 (gt_s 37 (by decide +kernel) (by decide +kernel)) tk_7 tk_820 (by decide +kernel) ⟨Nat.le_of_ble_eq_true rfl, Nat.le_of_ble_eq_true rfl⟩) (va_recv hK hP (ci := 5) (q0 := 0) rfl rfl) (y_preW hE hK hP hD hS hA) rfl rfl hl.1 rfl (lv_room (Nat.le_of_ble_eq_true rfl)) d_M_number_129 ⟨Nat.le_of_ble_eq_true rfl, Nat.le_of_ble_eq_true rfl⟩) hD hS hA (fun _ _ _ _ _ _ hp => False.elim hp) (fun v9 w9 H locs hp hlw hP hD hS => ?_)
      obtain ⟨rfl, rfl⟩ := hp
      have hP : va_P (gD G) vwC (wMR G h dg mp ml th n t pl pn xy pt sz rs ou wr sl (n4 t n P) 4 P va oa oc ok xs ys) H := hP
      have hD : va_D A (wMR G h dg mp ml th n t pl pn xy pt sz rs ou wr sl (n4 t n P) 4 P va oa oc ok xs ys) := hD
      refine W.eq (g2 := F0 mm 132 ls [.int (nI 0)]) rfl ?_
      exact yr_z (ws := wMR G h dg mp ml th n t pl pn xy pt sz rs ou wr sl (n4 t n P) 4 P va oa oc ok xs ys) hx hb hrt (rfl) hlocks (Or.inr ⟨_, _, _, by rw [← hPe]; unfold numR; rw [if_neg (by rw [hnu]; decide)]; split; rfl; rw [if_pos (Or.inl c123)], rfl, rfl⟩) rfl hK hP hD hS d_M_number_132
  have J78 : ∀ (z : Bool) (hz : z = decide (hr t n P = 45)) (hnu : nuN (hr t n P) = true) (H : Heap) (locs : List Loc) (ls : Array Slot), va_P (gD G) vwC (wMR G h dg mp ml th n t pl pn xy pt sz rs ou wr sl (n1 t n P) fk fp va oa oc ok xs ys) H → va_D A (wMR G h dg mp ml th n t pl pn xy pt sz rs ou wr sl (n1 t n P) fk fp va oa oc ok xs ys) → va_S A sx.heap H locs → lv_has ls 12 [(0, .ref (h 0)), (1, .int (nI P)), (2, .int (bz z))] → W pg l ev (yR 4 82) sx mm ([.ref (h 0)] : List Value).toArray bl mt cd H locs 0 0 (yMQ bl G A (wMR G h dg mp ml th n t pl pn xy pt sz rs ou wr sl p fk fp va oa oc ok xs ys).length (fun v w => (∃ q x, (numR t n dg (rn blN t n p) = .inr (q, x)) ∧ v = some (.int (nI 1)) ∧ w = wMR G h dg mp ml th n t pl pn xy pt sz rs ou wr sl q fk fp x oa oc ok xs ys) ∨ (∃ a b q, (numR t n dg (rn blN t n p) = .inl (a, b)) ∧ v = some (.int (nI 0)) ∧ w = wMR G h dg mp ml th n t pl pn xy pt sz rs ou wr sl q a b va oa oc ok xs ys)) (fun _ _ => False) ([.ref (h 0)] : List Value).toArray sx) (F0 mm 78 ls []) := by
    intro z hz hnu H locs ls hP hD hS hl
    refine lv_aload_n hx hb d_M_number_78 rfl (lv_at hl 0 rfl) ?_
    refine va_get (D := gD G) (ci := 5) (v := .int (nI (n1 t n P))) (C := "WordShapesModel") (T := TM) (N := 24) hx hb hg iw_M hown hK hP 0 rfl rfl 17 (by decide) (hg _ tk_700) (fun _ h9 => h9) rfl d_M_number_79 ?_
    refine lv_istore_n (lv' := [(3, .int (nI (n1 t n P))), (0, .ref (h 0)), (1, .int (nI P)), (2, .int (bz z))]) hx hb d_M_number_82 rfl hl (by decide) rfl (fun ls hl => ?_)
    refine lv_aload_n hx hb d_M_number_83 rfl (lv_at hl 1 rfl) ?_
    refine y_callW (y_runV (As := []) (rest := []) hx hb hml hown (c_M_digitsFrom l G h dg mp ml th n t pl pn xy pt sz rs ou wr sl (n1 t n P) fk fp va oa oc ok xs ys  (by omega) (by omega) (ht)) (gV (n := 0) hg tk_865 tk_867 (gt_s 49 (by decide +kernel) (by decide +kernel)) tk_7 tk_868 (by decide +kernel) ⟨Nat.le_of_ble_eq_true rfl, Nat.le_of_ble_eq_true rfl⟩) (va_recv hK hP (ci := 5) (q0 := 0) rfl rfl) (y_preW hE hK hP hD hS hA) rfl rfl hl.1 rfl (lv_room (Nat.le_of_ble_eq_true rfl)) d_M_number_84 ⟨Nat.le_of_ble_eq_true rfl, Nat.le_of_ble_eq_true rfl⟩) hD hS hA (fun _ _ _ _ _ _ hp => False.elim hp) (fun v9 w9 H locs hp hlw hP hD hS => ?_)
    obtain ⟨rfl, rfl⟩ := hp
    have hP : va_P (gD G) vwC (wMR G h dg mp ml th n t pl pn xy pt sz rs ou wr sl (rn diN t n (n1 t n P)) fk fp va oa oc ok xs ys) H := hP
    have hD : va_D A (wMR G h dg mp ml th n t pl pn xy pt sz rs ou wr sl (rn diN t n (n1 t n P)) fk fp va oa oc ok xs ys) := hD
    refine W.eq (g2 := F0 mm 87 ls [.int (nI (rn diN t n (n1 t n P) - (n1 t n P)))]) rfl ?_
    have hP : va_P (gD G) vwC (wMR G h dg mp ml th n t pl pn xy pt sz rs ou wr sl (n2 t n P) fk fp va oa oc ok xs ys) H := hP
    have hD : va_D A (wMR G h dg mp ml th n t pl pn xy pt sz rs ou wr sl (n2 t n P) fk fp va oa oc ok xs ys) := hD
    refine lv_istore (lv' := [(4, .int (nI (n2 t n P - n1 t n P))), (3, .int (nI (n1 t n P))), (0, .ref (h 0)), (1, .int (nI P)), (2, .int (bz z))]) hx hb d_M_number_87 hl (by decide) rfl (fun ls hl => ?_)
    refine lv_iload hx hb d_M_number_89 (lv_at hl 0 rfl) ?_
    refine lv_istore (lv' := [(5, .int (nI (n2 t n P - n1 t n P))), (4, .int (nI (n2 t n P - n1 t n P))), (3, .int (nI (n1 t n P))), (0, .ref (h 0)), (1, .int (nI P)), (2, .int (bz z))]) hx hb d_M_number_91 hl (by decide) rfl (fun ls hl => ?_)
    refine lv_aload_n hx hb d_M_number_93 rfl (lv_at hl 3 rfl) ?_
    refine y_callW (y_runV (As := []) (rest := []) hx hb hml hown (c_M_here l G h dg mp ml th n t pl pn xy pt sz rs ou wr sl (n2 t n P) fk fp va oa oc ok xs ys  (by omega) (by omega) (ht)) (gV (n := 0) hg tk_797 tk_799 (gt_s 35 (by decide +kernel) (by decide +kernel)) tk_7 tk_800 (by decide +kernel) ⟨Nat.le_of_ble_eq_true rfl, Nat.le_of_ble_eq_true rfl⟩) (va_recv hK hP (ci := 5) (q0 := 0) rfl rfl) (y_preW hE hK hP hD hS hA) rfl rfl hl.1 rfl (lv_room (Nat.le_of_ble_eq_true rfl)) d_M_number_94 ⟨Nat.le_of_ble_eq_true rfl, Nat.le_of_ble_eq_true rfl⟩) hD hS hA (fun _ _ _ _ _ _ hp => False.elim hp) (fun v9 w9 H locs hp hlw hP hD hS => ?_)
    obtain ⟨rfl, rfl⟩ := hp
    have hP : va_P (gD G) vwC (wMR G h dg mp ml th n t pl pn xy pt sz rs ou wr sl (n2 t n P) fk fp va oa oc ok xs ys) H := hP
    have hD : va_D A (wMR G h dg mp ml th n t pl pn xy pt sz rs ou wr sl (n2 t n P) fk fp va oa oc ok xs ys) := hD
    refine W.eq (g2 := F0 mm 97 ls [.int (toI (hr t n (n2 t n P)))]) rfl ?_
    refine lv_bipush (v := nI 46) hx hb d_M_number_97 (by decide) ?_
    refine yh_icmp_ne (a := hr t n (n2 t n P)) (b := 46) (tgt := 121) hx hb d_M_number_99 (by decide) (hr_le ht _ _) (by omega) (fun c99 => ?_) (fun c99 => ?_)
    · skip
      have e4 : n4 t n P = n2 t n P := if_neg c99
      have eA : nA t n P = n2 t n P - n1 t n P := if_neg c99
      rw [← e4] at hP hD
      exact J121 z (hz) (hnu) _ _ _ hP hD hS (lv_sub hl [3, 4, 5, 2, 1, 0] (by rw [eA]; rfl))
    · skip
      have h59 := hr_lt c99 (by decide)
      refine lv_aload_n hx hb d_M_number_102 rfl (lv_at hl 3 rfl) ?_
      refine lv_dup hx hb d_M_number_103 rfl ?_
      refine va_get (D := gD G) (ci := 5) (v := .int (nI (n2 t n P))) (C := "WordShapesModel") (T := TM) (N := 24) hx hb hg iw_M hown hK hP 0 rfl rfl 17 (by decide) (hg _ tk_700) (fun _ h9 => h9) rfl d_M_number_104 ?_
      refine lv_iconst (v := nI 1) hx hb d_M_number_107 (by decide) ?_
      refine lv_iadd hx hb d_M_number_108 ?_
      refine y_eqi (nI_add _ _) ?_
      refine va_put (D := gD G) (ci := 5) (v := .int (nI (n2 t n P + 1))) (ty := .int) (C := "WordShapesModel") (T := TM) (N := 24) hx hb hg iw_M ft_M fo_M nm_M hown hK hP hD hS 0 rfl rfl 17 (by decide) (hg _ tk_700) (fun _ h9 => h9) rfl (by decide +kernel) (rfl) (rfl) (Nat.le_of_ble_eq_true rfl) d_M_number_109 (fun H locs hP hD hS => ?_)
      have hP : va_P (gD G) vwC (wMR G h dg mp ml th n t pl pn xy pt sz rs ou wr sl (n2 t n P + 1) fk fp va oa oc ok xs ys) H := hP
      have hD : va_D A (wMR G h dg mp ml th n t pl pn xy pt sz rs ou wr sl (n2 t n P + 1) fk fp va oa oc ok xs ys) := hD
      refine lv_iload hx hb d_M_number_112 (lv_at hl 0 rfl) ?_
      refine lv_aload_n hx hb d_M_number_114 rfl (lv_at hl 3 rfl) ?_
      refine y_callW (y_runV (As := []) (rest := [.int (nI (n2 t n P - n1 t n P))]) hx hb hml hown (c_M_digitsFrom l G h dg mp ml th n t pl pn xy pt sz rs ou wr sl (n2 t n P + 1) fk fp va oa oc ok xs ys  (by omega) (by omega) (ht)) (gV (n := 0) hg tk_865 tk_867 (gt_s 49 (by decide +kernel) (by decide +kernel)) tk_7 tk_868 (by decide +kernel) ⟨Nat.le_of_ble_eq_true rfl, Nat.le_of_ble_eq_true rfl⟩) (va_recv hK hP (ci := 5) (q0 := 0) rfl rfl) (y_preW hE hK hP hD hS hA) rfl rfl hl.1 rfl (lv_room (Nat.le_of_ble_eq_true rfl)) d_M_number_115 ⟨Nat.le_of_ble_eq_true rfl, Nat.le_of_ble_eq_true rfl⟩) hD hS hA (fun _ _ _ _ _ _ hp => False.elim hp) (fun v9 w9 H locs hp hlw hP hD hS => ?_)
      obtain ⟨rfl, rfl⟩ := hp
      have hP : va_P (gD G) vwC (wMR G h dg mp ml th n t pl pn xy pt sz rs ou wr sl (rn diN t n (n2 t n P + 1)) fk fp va oa oc ok xs ys) H := hP
      have hD : va_D A (wMR G h dg mp ml th n t pl pn xy pt sz rs ou wr sl (rn diN t n (n2 t n P + 1)) fk fp va oa oc ok xs ys) := hD
      refine W.eq (g2 := F0 mm 118 ls [.int (nI (rn diN t n (n2 t n P + 1) - (n2 t n P + 1))), .int (nI (n2 t n P - n1 t n P))]) rfl ?_
      have e4 : n4 t n P = rn diN t n (n2 t n P + 1) := if_pos c99
      have eA : nA t n P = (n2 t n P - n1 t n P) + (rn diN t n (n2 t n P + 1) - (n2 t n P + 1)) := if_pos c99
      rw [← e4] at hP hD
      refine lv_iadd hx hb d_M_number_118 ?_
      refine y_eqi (nI_add _ _) ?_
      refine lv_istore (lv' := [(5, .int (nI ((n2 t n P - n1 t n P) + (rn diN t n (n2 t n P + 1) - (n2 t n P + 1))))), (4, .int (nI (n2 t n P - n1 t n P))), (3, .int (nI (n1 t n P))), (0, .ref (h 0)), (1, .int (nI P)), (2, .int (bz z))]) hx hb d_M_number_119 hl (by decide) rfl (fun ls hl => ?_)
      exact J121 z (hz) (hnu) _ _ _ hP hD hS (lv_sub hl [3, 4, 5, 2, 1, 0] (by rw [eA]; rfl))
  have J57 : ∀ (z : Bool) (hz : z = decide (hr t n P = 45)) (hnu : nuN (hr t n P) = true) (H : Heap) (locs : List Loc) (ls : Array Slot), va_P (gD G) vwC (wMR G h dg mp ml th n t pl pn xy pt sz rs ou wr sl P fk fp va oa oc ok xs ys) H → va_D A (wMR G h dg mp ml th n t pl pn xy pt sz rs ou wr sl P fk fp va oa oc ok xs ys) → va_S A sx.heap H locs → lv_has ls 12 [(0, .ref (h 0)), (1, .int (nI P))] → W pg l ev (yR 4 82) sx mm ([.ref (h 0)] : List Value).toArray bl mt cd H locs 0 0 (yMQ bl G A (wMR G h dg mp ml th n t pl pn xy pt sz rs ou wr sl p fk fp va oa oc ok xs ys).length (fun v w => (∃ q x, (numR t n dg (rn blN t n p) = .inr (q, x)) ∧ v = some (.int (nI 1)) ∧ w = wMR G h dg mp ml th n t pl pn xy pt sz rs ou wr sl q fk fp x oa oc ok xs ys) ∨ (∃ a b q, (numR t n dg (rn blN t n p) = .inl (a, b)) ∧ v = some (.int (nI 0)) ∧ w = wMR G h dg mp ml th n t pl pn xy pt sz rs ou wr sl q a b va oa oc ok xs ys)) (fun _ _ => False) ([.ref (h 0)] : List Value).toArray sx) (F0 mm 57 ls [.int (bz z)]) := by
    intro z hz hnu H locs ls hP hD hS hl
    refine lv_istore_n (lv' := [(2, .int (bz z)), (0, .ref (h 0)), (1, .int (nI P))]) hx hb d_M_number_57 rfl hl (by decide) rfl (fun ls hl => ?_)
    refine lv_aload_n hx hb d_M_number_58 rfl (lv_at hl 1 rfl) ?_
    refine y_callW (y_runV (As := []) (rest := []) hx hb hml hown (c_M_here l G h dg mp ml th n t pl pn xy pt sz rs ou wr sl P fk fp va oa oc ok xs ys  (by omega) (by omega) (ht)) (gV (n := 0) hg tk_797 tk_799 (gt_s 35 (by decide +kernel) (by decide +kernel)) tk_7 tk_800 (by decide +kernel) ⟨Nat.le_of_ble_eq_true rfl, Nat.le_of_ble_eq_true rfl⟩) (va_recv hK hP (ci := 5) (q0 := 0) rfl rfl) (y_preW hE hK hP hD hS hA) rfl rfl hl.1 rfl (lv_room (Nat.le_of_ble_eq_true rfl)) d_M_number_59 ⟨Nat.le_of_ble_eq_true rfl, Nat.le_of_ble_eq_true rfl⟩) hD hS hA (fun _ _ _ _ _ _ hp => False.elim hp) (fun v9 w9 H locs hp hlw hP hD hS => ?_)
    obtain ⟨rfl, rfl⟩ := hp
    have hP : va_P (gD G) vwC (wMR G h dg mp ml th n t pl pn xy pt sz rs ou wr sl P fk fp va oa oc ok xs ys) H := hP
    have hD : va_D A (wMR G h dg mp ml th n t pl pn xy pt sz rs ou wr sl P fk fp va oa oc ok xs ys) := hD
    refine W.eq (g2 := F0 mm 62 ls [.int (toI (hr t n P))]) rfl ?_
    refine y_call (y_runS (As := [.int (toI (hr t n P))]) (rest := []) hx hb hml hown (c_M_isSign l G  (toI (hr t n P)) ) (gS (n := 1) hg tk_814 tk_815 tk_7 tk_816 (by decide +kernel) ⟨Nat.le_of_ble_eq_true rfl, Nat.le_of_ble_eq_true rfl⟩) (y_pre hE hK hP hD hS hA [] rfl rfl) rfl rfl hl.1 rfl (lv_room (Nat.le_of_ble_eq_true rfl)) d_M_number_62 ⟨Nat.le_of_ble_eq_true rfl, Nat.le_of_ble_eq_true rfl⟩) hP hD hS hA [] rfl (fun _ _ _ _ _ _ hp => False.elim hp) (fun v9 w9 H locs hp hlw hP hD hS => ?_)
    obtain ⟨rfl, rfl⟩ := hp
    have hP : va_P (gD G) vwC (wMR G h dg mp ml th n t pl pn xy pt sz rs ou wr sl P fk fp va oa oc ok xs ys) H := hP
    have hD : va_D A (wMR G h dg mp ml th n t pl pn xy pt sz rs ou wr sl P fk fp va oa oc ok xs ys) := hD
    refine W.eq (g2 := F0 mm 65 ls [.int (bz (isSg (toI (hr t n P))))]) rfl ?_
    refine yy_if_eq (P := isSg (toI (hr t n P))) (tgt := 78) hx hb d_M_number_65 (by decide) (fun c65 => ?_) (fun c65 => ?_)
    · skip
      have hsg : ¬ sgN (hr t n P) = true := by rw [← (ch_g _ (Nat.lt_succ_of_le (hr_le ht _ _))), c65]; decide
      have e_ : n1 t n P = P := if_neg hsg
      rw [← e_] at hP hD
      exact J78 z (hz) (hnu) _ _ _ hP hD hS (lv_sub hl [1, 2, 0] (rfl))
    · skip
      have hsg : sgN (hr t n P) = true := (ch_g _ (Nat.lt_succ_of_le (hr_le ht _ _))).symm.trans c65
      have hsl9 : P < n := by rcases Nat.lt_or_ge P n with q9 | q9; exact q9; exact absurd hsg (by unfold hr; rw [if_neg (by omega)]; decide)
      refine lv_aload_n hx hb d_M_number_68 rfl (lv_at hl 1 rfl) ?_
      refine lv_dup hx hb d_M_number_69 rfl ?_
      refine va_get (D := gD G) (ci := 5) (v := .int (nI P)) (C := "WordShapesModel") (T := TM) (N := 24) hx hb hg iw_M hown hK hP 0 rfl rfl 17 (by decide) (hg _ tk_700) (fun _ h9 => h9) rfl d_M_number_70 ?_
      refine lv_iconst (v := nI 1) hx hb d_M_number_73 (by decide) ?_
      refine lv_iadd hx hb d_M_number_74 ?_
      refine y_eqi (nI_add _ _) ?_
      refine va_put (D := gD G) (ci := 5) (v := .int (nI (P + 1))) (ty := .int) (C := "WordShapesModel") (T := TM) (N := 24) hx hb hg iw_M ft_M fo_M nm_M hown hK hP hD hS 0 rfl rfl 17 (by decide) (hg _ tk_700) (fun _ h9 => h9) rfl (by decide +kernel) (rfl) (rfl) (Nat.le_of_ble_eq_true rfl) d_M_number_75 (fun H locs hP hD hS => ?_)
      have hP : va_P (gD G) vwC (wMR G h dg mp ml th n t pl pn xy pt sz rs ou wr sl (P + 1) fk fp va oa oc ok xs ys) H := hP
      have hD : va_D A (wMR G h dg mp ml th n t pl pn xy pt sz rs ou wr sl (P + 1) fk fp va oa oc ok xs ys) := hD
      have e_ : n1 t n P = P + 1 := if_pos hsg
      rw [← e_] at hP hD
      exact J78 z (hz) (hnu) _ _ _ hP hD hS (lv_sub hl [1, 2, 0] (rfl))
  have J43 : ∀  (hnu : nuN (hr t n P) = true) (H : Heap) (locs : List Loc) (ls : Array Slot), va_P (gD G) vwC (wMR G h dg mp ml th n t pl pn xy pt sz rs ou wr sl P fk fp va oa oc ok xs ys) H → va_D A (wMR G h dg mp ml th n t pl pn xy pt sz rs ou wr sl P fk fp va oa oc ok xs ys) → va_S A sx.heap H locs → lv_has ls 12 [(0, .ref (h 0)), (1, .int (nI P))] → W pg l ev (yR 4 82) sx mm ([.ref (h 0)] : List Value).toArray bl mt cd H locs 0 0 (yMQ bl G A (wMR G h dg mp ml th n t pl pn xy pt sz rs ou wr sl p fk fp va oa oc ok xs ys).length (fun v w => (∃ q x, (numR t n dg (rn blN t n p) = .inr (q, x)) ∧ v = some (.int (nI 1)) ∧ w = wMR G h dg mp ml th n t pl pn xy pt sz rs ou wr sl q fk fp x oa oc ok xs ys) ∨ (∃ a b q, (numR t n dg (rn blN t n p) = .inl (a, b)) ∧ v = some (.int (nI 0)) ∧ w = wMR G h dg mp ml th n t pl pn xy pt sz rs ou wr sl q a b va oa oc ok xs ys)) (fun _ _ => False) ([.ref (h 0)] : List Value).toArray sx) (F0 mm 43 ls []) := by
    intro  hnu H locs ls hP hD hS hl
    refine lv_aload_n hx hb d_M_number_43 rfl (lv_at hl 0 rfl) ?_
    refine y_callW (y_runV (As := []) (rest := []) hx hb hml hown (c_M_here l G h dg mp ml th n t pl pn xy pt sz rs ou wr sl P fk fp va oa oc ok xs ys  (by omega) (by omega) (ht)) (gV (n := 0) hg tk_797 tk_799 (gt_s 35 (by decide +kernel) (by decide +kernel)) tk_7 tk_800 (by decide +kernel) ⟨Nat.le_of_ble_eq_true rfl, Nat.le_of_ble_eq_true rfl⟩) (va_recv hK hP (ci := 5) (q0 := 0) rfl rfl) (y_preW hE hK hP hD hS hA) rfl rfl hl.1 rfl (lv_room (Nat.le_of_ble_eq_true rfl)) d_M_number_44 ⟨Nat.le_of_ble_eq_true rfl, Nat.le_of_ble_eq_true rfl⟩) hD hS hA (fun _ _ _ _ _ _ hp => False.elim hp) (fun v9 w9 H locs hp hlw hP hD hS => ?_)
    obtain ⟨rfl, rfl⟩ := hp
    have hP : va_P (gD G) vwC (wMR G h dg mp ml th n t pl pn xy pt sz rs ou wr sl P fk fp va oa oc ok xs ys) H := hP
    have hD : va_D A (wMR G h dg mp ml th n t pl pn xy pt sz rs ou wr sl P fk fp va oa oc ok xs ys) := hD
    refine W.eq (g2 := F0 mm 47 ls [.int (toI (hr t n P))]) rfl ?_
    refine lv_bipush (v := nI 45) hx hb d_M_number_47 (by decide) ?_
    refine yh_icmp_ne (a := hr t n P) (b := 45) (tgt := 56) hx hb d_M_number_49 (by decide) (hr_le ht _ _) (by omega) (fun c49 => ?_) (fun c49 => ?_)
    · skip
      refine lv_iconst (v := nI 0) hx hb d_M_number_56 (by decide) ?_
      exact J57 false ((decide_eq_false c49).symm) (hnu) _ _ _ hP hD hS (lv_sub hl [0, 1] (rfl))
    · skip
      refine lv_iconst (v := nI 1) hx hb d_M_number_52 (by decide) ?_
      refine lv_goto (tgt := 57) hx hb d_M_number_53 (by decide) ?_
      exact J57 true ((decide_eq_true c49).symm) (hnu) _ _ _ hP hD hS (lv_sub hl [0, 1] (rfl))
  refine lv_aload_n hx hb d_M_number_0 rfl (lv_at hl 0 rfl) ?_
  refine y_callW (y_runV (As := []) (rest := []) hx hb hml hown (c_M_pass l G h dg mp ml th n t pl pn xy pt sz rs ou wr sl p fk fp va oa oc ok xs ys  (by omega) (by omega) (ht)) (gV (n := 0) hg tk_790 tk_792 (gt_s 34 (by decide +kernel) (by decide +kernel)) tk_7 tk_793 (by decide +kernel) ⟨Nat.le_of_ble_eq_true rfl, Nat.le_of_ble_eq_true rfl⟩) (va_recv hK hP (ci := 5) (q0 := 0) rfl rfl) (y_preW hE hK hP hD hS hA) rfl rfl hl.1 rfl (lv_room (Nat.le_of_ble_eq_true rfl)) d_M_number_1 ⟨Nat.le_of_ble_eq_true rfl, Nat.le_of_ble_eq_true rfl⟩) hD hS hA (fun _ _ _ _ _ _ hp => False.elim hp) (fun v9 w9 H locs hp hlw hP hD hS => ?_)
  obtain ⟨rfl, rfl⟩ := hp
  have hP : va_P (gD G) vwC (wMR G h dg mp ml th n t pl pn xy pt sz rs ou wr sl (rn blN t n p) fk fp va oa oc ok xs ys) H := hP
  have hD : va_D A (wMR G h dg mp ml th n t pl pn xy pt sz rs ou wr sl (rn blN t n p) fk fp va oa oc ok xs ys) := hD
  refine W.eq (g2 := F0 mm 4 ls []) rfl ?_
  rw [← hPe] at hP hD
  refine lv_aload_n hx hb d_M_number_4 rfl (lv_at hl 0 rfl) ?_
  refine va_get (D := gD G) (ci := 5) (v := .int (nI P)) (C := "WordShapesModel") (T := TM) (N := 24) hx hb hg iw_M hown hK hP 0 rfl rfl 17 (by decide) (hg _ tk_700) (fun _ h9 => h9) rfl d_M_number_5 ?_
  refine lv_istore_n (lv' := [(1, .int (nI P)), (0, .ref (h 0))]) hx hb d_M_number_8 rfl hl (by decide) rfl (fun ls hl => ?_)
  refine lv_aload_n hx hb d_M_number_9 rfl (lv_at hl 1 rfl) ?_
  refine y_callW (y_runV (As := []) (rest := []) hx hb hml hown (c_M_here l G h dg mp ml th n t pl pn xy pt sz rs ou wr sl P fk fp va oa oc ok xs ys  (by omega) (by omega) (ht)) (gV (n := 0) hg tk_797 tk_799 (gt_s 35 (by decide +kernel) (by decide +kernel)) tk_7 tk_800 (by decide +kernel) ⟨Nat.le_of_ble_eq_true rfl, Nat.le_of_ble_eq_true rfl⟩) (va_recv hK hP (ci := 5) (q0 := 0) rfl rfl) (y_preW hE hK hP hD hS hA) rfl rfl hl.1 rfl (lv_room (Nat.le_of_ble_eq_true rfl)) d_M_number_10 ⟨Nat.le_of_ble_eq_true rfl, Nat.le_of_ble_eq_true rfl⟩) hD hS hA (fun _ _ _ _ _ _ hp => False.elim hp) (fun v9 w9 H locs hp hlw hP hD hS => ?_)
  obtain ⟨rfl, rfl⟩ := hp
  have hP : va_P (gD G) vwC (wMR G h dg mp ml th n t pl pn xy pt sz rs ou wr sl P fk fp va oa oc ok xs ys) H := hP
  have hD : va_D A (wMR G h dg mp ml th n t pl pn xy pt sz rs ou wr sl P fk fp va oa oc ok xs ys) := hD
  refine W.eq (g2 := F0 mm 13 ls [.int (toI (hr t n P))]) rfl ?_
  refine y_call (y_runS (As := [.int (toI (hr t n P))]) (rest := []) hx hb hml hown (c_M_isSign l G  (toI (hr t n P)) ) (gS (n := 1) hg tk_814 tk_815 tk_7 tk_816 (by decide +kernel) ⟨Nat.le_of_ble_eq_true rfl, Nat.le_of_ble_eq_true rfl⟩) (y_pre hE hK hP hD hS hA [] rfl rfl) rfl rfl hl.1 rfl (lv_room (Nat.le_of_ble_eq_true rfl)) d_M_number_13 ⟨Nat.le_of_ble_eq_true rfl, Nat.le_of_ble_eq_true rfl⟩) hP hD hS hA [] rfl (fun _ _ _ _ _ _ hp => False.elim hp) (fun v9 w9 H locs hp hlw hP hD hS => ?_)
  obtain ⟨rfl, rfl⟩ := hp
  have hP : va_P (gD G) vwC (wMR G h dg mp ml th n t pl pn xy pt sz rs ou wr sl P fk fp va oa oc ok xs ys) H := hP
  have hD : va_D A (wMR G h dg mp ml th n t pl pn xy pt sz rs ou wr sl P fk fp va oa oc ok xs ys) := hD
  refine W.eq (g2 := F0 mm 16 ls [.int (bz (isSg (toI (hr t n P))))]) rfl ?_
  refine yy_if_ne (P := isSg (toI (hr t n P))) (tgt := 43) hx hb d_M_number_16 (by decide) (fun c16 => ?_) (fun c16 => ?_)
  · skip
    exact J43  (by rw [hnc]; first | (rw [← (ch_g _ (Nat.lt_succ_of_le (hr_le ht _ _))), c16]; rfl) | (rw [← (ch_h _ (Nat.lt_succ_of_le (hr_le ht _ _))).2.2.1, c26, Bool.or_true, Bool.true_or]) | (rw [decide_eq_true c35, Bool.or_true])) _ _ _ hP hD hS (lv_sub hl [1, 0] (rfl))
  · skip
    refine lv_aload_n hx hb d_M_number_19 rfl (lv_at hl 1 rfl) ?_
    refine y_callW (y_runV (As := []) (rest := []) hx hb hml hown (c_M_here l G h dg mp ml th n t pl pn xy pt sz rs ou wr sl P fk fp va oa oc ok xs ys  (by omega) (by omega) (ht)) (gV (n := 0) hg tk_797 tk_799 (gt_s 35 (by decide +kernel) (by decide +kernel)) tk_7 tk_800 (by decide +kernel) ⟨Nat.le_of_ble_eq_true rfl, Nat.le_of_ble_eq_true rfl⟩) (va_recv hK hP (ci := 5) (q0 := 0) rfl rfl) (y_preW hE hK hP hD hS hA) rfl rfl hl.1 rfl (lv_room (Nat.le_of_ble_eq_true rfl)) d_M_number_20 ⟨Nat.le_of_ble_eq_true rfl, Nat.le_of_ble_eq_true rfl⟩) hD hS hA (fun _ _ _ _ _ _ hp => False.elim hp) (fun v9 w9 H locs hp hlw hP hD hS => ?_)
    obtain ⟨rfl, rfl⟩ := hp
    have hP : va_P (gD G) vwC (wMR G h dg mp ml th n t pl pn xy pt sz rs ou wr sl P fk fp va oa oc ok xs ys) H := hP
    have hD : va_D A (wMR G h dg mp ml th n t pl pn xy pt sz rs ou wr sl P fk fp va oa oc ok xs ys) := hD
    refine W.eq (g2 := F0 mm 23 ls [.int (toI (hr t n P))]) rfl ?_
    refine y_call (y_runS (As := [.int (toI (hr t n P))]) (rest := []) hx hb hml hown (c_M_isDigit l G  (toI (hr t n P)) ) (gS (n := 1) hg tk_811 tk_812 tk_7 tk_813 (by decide +kernel) ⟨Nat.le_of_ble_eq_true rfl, Nat.le_of_ble_eq_true rfl⟩) (y_pre hE hK hP hD hS hA [] rfl rfl) rfl rfl hl.1 rfl (lv_room (Nat.le_of_ble_eq_true rfl)) d_M_number_23 ⟨Nat.le_of_ble_eq_true rfl, Nat.le_of_ble_eq_true rfl⟩) hP hD hS hA [] rfl (fun _ _ _ _ _ _ hp => False.elim hp) (fun v9 w9 H locs hp hlw hP hD hS => ?_)
    obtain ⟨rfl, rfl⟩ := hp
    have hP : va_P (gD G) vwC (wMR G h dg mp ml th n t pl pn xy pt sz rs ou wr sl P fk fp va oa oc ok xs ys) H := hP
    have hD : va_D A (wMR G h dg mp ml th n t pl pn xy pt sz rs ou wr sl P fk fp va oa oc ok xs ys) := hD
    refine W.eq (g2 := F0 mm 26 ls [.int (bz (isDi (toI (hr t n P))))]) rfl ?_
    refine yy_if_ne (P := isDi (toI (hr t n P))) (tgt := 43) hx hb d_M_number_26 (by decide) (fun c26 => ?_) (fun c26 => ?_)
    · skip
      exact J43  (by rw [hnc]; first | (rw [← (ch_g _ (Nat.lt_succ_of_le (hr_le ht _ _))), c16]; rfl) | (rw [← (ch_h _ (Nat.lt_succ_of_le (hr_le ht _ _))).2.2.1, c26, Bool.or_true, Bool.true_or]) | (rw [decide_eq_true c35, Bool.or_true])) _ _ _ hP hD hS (lv_sub hl [1, 0] (rfl))
    · skip
      refine lv_aload_n hx hb d_M_number_29 rfl (lv_at hl 1 rfl) ?_
      refine y_callW (y_runV (As := []) (rest := []) hx hb hml hown (c_M_here l G h dg mp ml th n t pl pn xy pt sz rs ou wr sl P fk fp va oa oc ok xs ys  (by omega) (by omega) (ht)) (gV (n := 0) hg tk_797 tk_799 (gt_s 35 (by decide +kernel) (by decide +kernel)) tk_7 tk_800 (by decide +kernel) ⟨Nat.le_of_ble_eq_true rfl, Nat.le_of_ble_eq_true rfl⟩) (va_recv hK hP (ci := 5) (q0 := 0) rfl rfl) (y_preW hE hK hP hD hS hA) rfl rfl hl.1 rfl (lv_room (Nat.le_of_ble_eq_true rfl)) d_M_number_30 ⟨Nat.le_of_ble_eq_true rfl, Nat.le_of_ble_eq_true rfl⟩) hD hS hA (fun _ _ _ _ _ _ hp => False.elim hp) (fun v9 w9 H locs hp hlw hP hD hS => ?_)
      obtain ⟨rfl, rfl⟩ := hp
      have hP : va_P (gD G) vwC (wMR G h dg mp ml th n t pl pn xy pt sz rs ou wr sl P fk fp va oa oc ok xs ys) H := hP
      have hD : va_D A (wMR G h dg mp ml th n t pl pn xy pt sz rs ou wr sl P fk fp va oa oc ok xs ys) := hD
      refine W.eq (g2 := F0 mm 33 ls [.int (toI (hr t n P))]) rfl ?_
      refine lv_bipush (v := nI 46) hx hb d_M_number_33 (by decide) ?_
      refine yh_icmp_eq (a := hr t n P) (b := 46) (tgt := 43) hx hb d_M_number_35 (by decide) (hr_le ht _ _) (by omega) (fun c35 => ?_) (fun c35 => ?_)
      · skip
        exact J43  (by rw [hnc]; first | (rw [← (ch_g _ (Nat.lt_succ_of_le (hr_le ht _ _))), c16]; rfl) | (rw [← (ch_h _ (Nat.lt_succ_of_le (hr_le ht _ _))).2.2.1, c26, Bool.or_true, Bool.true_or]) | (rw [decide_eq_true c35, Bool.or_true])) _ _ _ hP hD hS (lv_sub hl [1, 0] (rfl))
      · skip
        refine lv_aload_n hx hb d_M_number_38 rfl (lv_at hl 1 rfl) ?_
        refine y_callW (y_runV (As := []) (rest := []) hx hb hml hown (c_M_unexpected l G h dg mp ml th n t pl pn xy pt sz rs ou wr sl P fk fp va oa oc ok xs ys  (by omega) (by omega) (ht)) (gV (n := 0) hg tk_804 tk_806 (gt_s 36 (by decide +kernel) (by decide +kernel)) tk_7 tk_807 (by decide +kernel) ⟨Nat.le_of_ble_eq_true rfl, Nat.le_of_ble_eq_true rfl⟩) (va_recv hK hP (ci := 5) (q0 := 0) rfl rfl) (y_preW hE hK hP hD hS hA) rfl rfl hl.1 rfl (lv_room (Nat.le_of_ble_eq_true rfl)) d_M_number_39 ⟨Nat.le_of_ble_eq_true rfl, Nat.le_of_ble_eq_true rfl⟩) hD hS hA (fun _ _ _ _ _ _ hp => False.elim hp) (fun v9 w9 H locs hp hlw hP hD hS => ?_)
        obtain ⟨rfl, rfl⟩ := hp
        have hP : va_P (gD G) vwC (wMR G h dg mp ml th n t pl pn xy pt sz rs ou wr sl P (uxp (hr t n P)) P va oa oc ok xs ys) H := hP
        have hD : va_D A (wMR G h dg mp ml th n t pl pn xy pt sz rs ou wr sl P (uxp (hr t n P)) P va oa oc ok xs ys) := hD
        refine W.eq (g2 := F0 mm 42 ls [.int (nI 0)]) rfl ?_
        exact yr_z (ws := wMR G h dg mp ml th n t pl pn xy pt sz rs ou wr sl P (uxp (hr t n P)) P va oa oc ok xs ys) hx hb hrt (rfl) hlocks (Or.inr ⟨_, _, _, by rw [← hPe]; unfold numR; rw [if_pos (by rw [hnc, ← (ch_g _ (Nat.lt_succ_of_le (hr_le ht _ _))), ← (ch_h _ (Nat.lt_succ_of_le (hr_le ht _ _))).2.2.1, c16, c26, decide_eq_false c35]; rfl)], rfl, rfl⟩) rfl hK hP hD hS d_M_number_42
