set_option maxHeartbeats 4000000 in
set_option maxRecDepth 100000 in
theorem c_B_init (l : Launch) (G : gl) (h0 : Nat)  : YI l G y_B_init k_B_init 1 1 40 2 (108) [.ref h0] ([(h0, .inr (0, [.null, .null, .int (nI 0)]))]) (fun w => ∃ q1 q2, w = [(h0, .inr (0, [.ref q1, .ref q2, .int (nI 0)])), (q1, .inl (gc G 0, 54, .inl (fun _ => nI 0))), (q2, .inl (gc G 0, 54, .inl (fun _ => nI 0)))]) := by
  refine yi_of (by decide) ?_
  intro pg ev sx mm bl mt cd A C0 hP hD
  obtain ⟨hx, hb, hrt, hml, hown, hg, hlocks, hK, hA, hmn, hAO, hNW⟩ := C0
  have hS : va_S A sx.heap sx.heap [] := va_S.rf
  have hl := lv_entry ([.ref h0]) (n := 1) (Nat.le_of_ble_eq_true rfl)
  rw [lg_entry_eq]
  generalize (lg_sl ([.ref h0]) ++ List.replicate (1 - (lg_sl ([.ref h0])).length) Slot.unset).toArray = ls at hl ⊢
  have hl : lv_has ls 1 [(0, .ref h0)] := hl
  obtain ⟨H, hH⟩ : ∃ H, H = sx.heap := ⟨_, rfl⟩
  rw [← hH] at hP
  have hS : va_S A sx.heap H [] := by rw [hH]; exact hS
  suffices h9 : W pg l ev (iR 1 40 2 (108)) sx mm _ bl mt cd H [] 0 0 (MQ bl (va_Qv _ (iB G A) A) _ sx 2 (108) A) (F0 mm 0 ls []) by rw [hH] at h9; exact h9
  obtain ⟨locs, hlo⟩ : ∃ locs : List Loc, locs = [] := ⟨_, rfl⟩
  rw [← hlo] at hS ⊢
  refine lv_aload_n hx hb d_B_init_0 rfl (lv_at hl 0 rfl) ?_
  refine W.objInit hx hb hown (hg _ tk_72) (hg _ tk_26) (hg _ tk_27) rfl (by rw [hml]; exact hl.1) rfl d_B_init_1 (Nat.le_of_ble_eq_true rfl) (Nat.le_of_ble_eq_true rfl) ?_
  refine W.eq (g2 := F0 mm 4 ls []) rfl ?_
  refine lv_aload_n hx hb d_B_init_4 rfl (lv_at hl 0 rfl) ?_
  refine lv_bipush (v := nI 54) hx hb d_B_init_5 (by decide) ?_
  refine y_newI (n := 54) hx hb (hg _ tk_59) hK hP hD hS hA (by omega) (by show _ ≤ 2; omega) (by show _ ≤ 108; omega) d_B_init_7 (fun q7 H hP hD hS => ?_)
  have hP : va_P (gD G) vwC ([(h0, .inr (0, [.null, .null, .int (nI 0)])), (q7, .inl (gc G 0, 54, .inl (fun _ => nI 0)))]) H := hP
  have hD : va_D A ([(h0, .inr (0, [.null, .null, .int (nI 0)])), (q7, .inl (gc G 0, 54, .inl (fun _ => nI 0)))]) := hD
  refine va_putF (D := gD G) (ci := 0) (v := .ref q7) (ty := .array (.int)) (C := "WordShapes$Brackets") (T := TB) (N := 3) hx hb hg iw_B ft_B fo_B nm_B hown hK hP hD hS 0 rfl rfl 0 (by decide) (hg _ tk_73) (fun _ h9 => h9) rfl hmn rfl (by decide +kernel) rfl rfl (Nat.le_of_ble_eq_true rfl) d_B_init_9 (fun H locs hP hD hS => ?_)
  have hP : va_P (gD G) vwC ([(h0, .inr (0, [.ref q7, .null, .int (nI 0)])), (q7, .inl (gc G 0, 54, .inl (fun _ => nI 0)))]) H := hP
  have hD : va_D A ([(h0, .inr (0, [.ref q7, .null, .int (nI 0)])), (q7, .inl (gc G 0, 54, .inl (fun _ => nI 0)))]) := hD
  refine lv_aload_n hx hb d_B_init_12 rfl (lv_at hl 0 rfl) ?_
  refine lv_bipush (v := nI 54) hx hb d_B_init_13 (by decide) ?_
  refine y_newI (n := 54) hx hb (hg _ tk_59) hK hP hD hS hA (by omega) (by show _ ≤ 2; omega) (by show _ ≤ 108; omega) d_B_init_15 (fun q15 H hP hD hS => ?_)
  have hP : va_P (gD G) vwC ([(h0, .inr (0, [.ref q7, .null, .int (nI 0)])), (q7, .inl (gc G 0, 54, .inl (fun _ => nI 0))), (q15, .inl (gc G 0, 54, .inl (fun _ => nI 0)))]) H := hP
  have hD : va_D A ([(h0, .inr (0, [.ref q7, .null, .int (nI 0)])), (q7, .inl (gc G 0, 54, .inl (fun _ => nI 0))), (q15, .inl (gc G 0, 54, .inl (fun _ => nI 0)))]) := hD
  refine va_putF (D := gD G) (ci := 0) (v := .ref q15) (ty := .array (.int)) (C := "WordShapes$Brackets") (T := TB) (N := 3) hx hb hg iw_B ft_B fo_B nm_B hown hK hP hD hS 0 rfl rfl 1 (by decide) (hg _ tk_74) (fun _ h9 => h9) rfl hmn rfl (by decide +kernel) rfl rfl (Nat.le_of_ble_eq_true rfl) d_B_init_17 (fun H locs hP hD hS => ?_)
  have hP : va_P (gD G) vwC ([(h0, .inr (0, [.ref q7, .ref q15, .int (nI 0)])), (q7, .inl (gc G 0, 54, .inl (fun _ => nI 0))), (q15, .inl (gc G 0, 54, .inl (fun _ => nI 0)))]) H := hP
  have hD : va_D A ([(h0, .inr (0, [.ref q7, .ref q15, .int (nI 0)])), (q7, .inl (gc G 0, 54, .inl (fun _ => nI 0))), (q15, .inl (gc G 0, 54, .inl (fun _ => nI 0)))]) := hD
  have hP := hP.sub (ws' := [(h0, .inr (0, [.ref q7, .ref q15, .int (nI 0)])), (q7, .inl (gc G 0, 54, .inl (fun _ => nI 0))), (q15, .inl (gc G 0, 54, .inl (fun _ => nI 0)))]) [0, 1, 2] rfl
  have hD := hD.sub (ws' := [(h0, .inr (0, [.ref q7, .ref q15, .int (nI 0)])), (q7, .inl (gc G 0, 54, .inl (fun _ => nI 0))), (q15, .inl (gc G 0, 54, .inl (fun _ => nI 0)))]) [0, 1, 2] (by decide) rfl
  exact yi_ret hx hb hrt hlocks (by show _ ≤ 2; omega) (by show _ ≤ 108; omega) (⟨_, _, rfl⟩) hK hP hD hS d_B_init_20
set_option maxHeartbeats 4000000 in
set_option maxRecDepth 100000 in
theorem c_S_init (l : Launch) (G : gl) (h0 : Nat) (np : Nat) (pt : Nat) (hnp : np ≤ 4096) (hpt : pt ≤ 4096) : YI l G y_S_init k_S_init 3 1 40 2 (np + 2 * pt) [.ref h0, .int (nI np), .int (nI pt)] ([(h0, .inr (2, [.null, .null, .int (nI 0), .int (nI 0)]))]) (fun w => ∃ q1 q2, w = [(h0, .inr (2, [.ref q1, .ref q2, .int (nI 0), .int (nI 0)])), (q1, .inl (gc G 0, np, .inl (fun _ => nI 0))), (q2, .inl (gc G 0, 2 * pt, .inl (fun _ => nI 0)))]) := by
  refine yi_of (by decide) ?_
  intro pg ev sx mm bl mt cd A C0 hP hD
  obtain ⟨hx, hb, hrt, hml, hown, hg, hlocks, hK, hA, hmn, hAO, hNW⟩ := C0
  have hS : va_S A sx.heap sx.heap [] := va_S.rf
  have hl := lv_entry ([.ref h0, .int (nI np), .int (nI pt)]) (n := 3) (Nat.le_of_ble_eq_true rfl)
  rw [lg_entry_eq]
  generalize (lg_sl ([.ref h0, .int (nI np), .int (nI pt)]) ++ List.replicate (3 - (lg_sl ([.ref h0, .int (nI np), .int (nI pt)])).length) Slot.unset).toArray = ls at hl ⊢
  have hl : lv_has ls 3 [(0, .ref h0), (1, .int (nI np)), (2, .int (nI pt))] := hl
  obtain ⟨H, hH⟩ : ∃ H, H = sx.heap := ⟨_, rfl⟩
  rw [← hH] at hP
  have hS : va_S A sx.heap H [] := by rw [hH]; exact hS
  suffices h9 : W pg l ev (iR 1 40 2 (np + 2 * pt)) sx mm _ bl mt cd H [] 0 0 (MQ bl (va_Qv _ (iB G A) A) _ sx 2 (np + 2 * pt) A) (F0 mm 0 ls []) by rw [hH] at h9; exact h9
  obtain ⟨locs, hlo⟩ : ∃ locs : List Loc, locs = [] := ⟨_, rfl⟩
  rw [← hlo] at hS ⊢
  refine lv_aload_n hx hb d_S_init_0 rfl (lv_at hl 0 rfl) ?_
  refine W.objInit hx hb hown (hg _ tk_40) (hg _ tk_26) (hg _ tk_27) rfl (by rw [hml]; exact hl.1) rfl d_S_init_1 (Nat.le_of_ble_eq_true rfl) (Nat.le_of_ble_eq_true rfl) ?_
  refine W.eq (g2 := F0 mm 4 ls []) rfl ?_
  refine lv_aload_n hx hb d_S_init_4 rfl (lv_at hl 0 rfl) ?_
  refine lv_iload_n hx hb d_S_init_5 rfl (lv_at hl 1 rfl) ?_
  refine y_newI (n := np) hx hb (hg _ tk_59) hK hP hD hS hA (by omega) (by show _ ≤ 2; omega) (by show _ ≤ np + 2 * pt; omega) d_S_init_6 (fun q6 H hP hD hS => ?_)
  have hP : va_P (gD G) vwC ([(h0, .inr (2, [.null, .null, .int (nI 0), .int (nI 0)])), (q6, .inl (gc G 0, np, .inl (fun _ => nI 0)))]) H := hP
  have hD : va_D A ([(h0, .inr (2, [.null, .null, .int (nI 0), .int (nI 0)])), (q6, .inl (gc G 0, np, .inl (fun _ => nI 0)))]) := hD
  refine va_putF (D := gD G) (ci := 2) (v := .ref q6) (ty := .array (.int)) (C := "WordShapes$Shape") (T := TS) (N := 4) hx hb hg iw_S ft_S fo_S nm_S hown hK hP hD hS 0 rfl rfl 0 (by decide) (hg _ tk_41) (fun _ h9 => h9) rfl hmn rfl (by decide +kernel) rfl rfl (Nat.le_of_ble_eq_true rfl) d_S_init_8 (fun H locs hP hD hS => ?_)
  have hP : va_P (gD G) vwC ([(h0, .inr (2, [.ref q6, .null, .int (nI 0), .int (nI 0)])), (q6, .inl (gc G 0, np, .inl (fun _ => nI 0)))]) H := hP
  have hD : va_D A ([(h0, .inr (2, [.ref q6, .null, .int (nI 0), .int (nI 0)])), (q6, .inl (gc G 0, np, .inl (fun _ => nI 0)))]) := hD
  refine lv_aload_n hx hb d_S_init_11 rfl (lv_at hl 0 rfl) ?_
  refine lv_iconst (v := nI 2) hx hb d_S_init_12 (by decide) ?_
  refine lv_iload_n hx hb d_S_init_13 rfl (lv_at hl 2 rfl) ?_
  refine lv_imul hx hb d_S_init_14 ?_
  refine y_eqi (pk_mul _ _) ?_
  refine y_newI (n := 2 * pt) hx hb (hg _ tk_59) hK hP hD hS hA (by omega) (by show _ ≤ 2; omega) (by show _ ≤ np + 2 * pt; omega) d_S_init_15 (fun q15 H hP hD hS => ?_)
  have hP : va_P (gD G) vwC ([(h0, .inr (2, [.ref q6, .null, .int (nI 0), .int (nI 0)])), (q6, .inl (gc G 0, np, .inl (fun _ => nI 0))), (q15, .inl (gc G 0, 2 * pt, .inl (fun _ => nI 0)))]) H := hP
  have hD : va_D A ([(h0, .inr (2, [.ref q6, .null, .int (nI 0), .int (nI 0)])), (q6, .inl (gc G 0, np, .inl (fun _ => nI 0))), (q15, .inl (gc G 0, 2 * pt, .inl (fun _ => nI 0)))]) := hD
  refine va_putF (D := gD G) (ci := 2) (v := .ref q15) (ty := .array (.int)) (C := "WordShapes$Shape") (T := TS) (N := 4) hx hb hg iw_S ft_S fo_S nm_S hown hK hP hD hS 0 rfl rfl 1 (by decide) (hg _ tk_42) (fun _ h9 => h9) rfl hmn rfl (by decide +kernel) rfl rfl (Nat.le_of_ble_eq_true rfl) d_S_init_17 (fun H locs hP hD hS => ?_)
  have hP : va_P (gD G) vwC ([(h0, .inr (2, [.ref q6, .ref q15, .int (nI 0), .int (nI 0)])), (q6, .inl (gc G 0, np, .inl (fun _ => nI 0))), (q15, .inl (gc G 0, 2 * pt, .inl (fun _ => nI 0)))]) H := hP
  have hD : va_D A ([(h0, .inr (2, [.ref q6, .ref q15, .int (nI 0), .int (nI 0)])), (q6, .inl (gc G 0, np, .inl (fun _ => nI 0))), (q15, .inl (gc G 0, 2 * pt, .inl (fun _ => nI 0)))]) := hD
  have hP := hP.sub (ws' := [(h0, .inr (2, [.ref q6, .ref q15, .int (nI 0), .int (nI 0)])), (q6, .inl (gc G 0, np, .inl (fun _ => nI 0))), (q15, .inl (gc G 0, 2 * pt, .inl (fun _ => nI 0)))]) [0, 1, 2] rfl
  have hD := hD.sub (ws' := [(h0, .inr (2, [.ref q6, .ref q15, .int (nI 0), .int (nI 0)])), (q6, .inl (gc G 0, np, .inl (fun _ => nI 0))), (q15, .inl (gc G 0, 2 * pt, .inl (fun _ => nI 0)))]) [0, 1, 2] (by decide) rfl
  exact yi_ret hx hb hrt hlocks (by show _ ≤ 2; omega) (by show _ ≤ np + 2 * pt; omega) (⟨_, _, rfl⟩) hK hP hD hS d_S_init_20
set_option maxHeartbeats 4000000 in
set_option maxRecDepth 100000 in
theorem c_R_init (l : Launch) (G : gl) (h0 : Nat) (tb : Nat) (dg : Nat) (df : Nat)  : YI l G y_R_init k_R_init 4 2 60 3 (111) [.ref h0, .ref tb, .int (nI dg), .ref df] ([(h0, .inr (1, [.null, .int (nI 0), .null, .null, .int (nI 0), .int (nI 0), .int (nI 0), .int (nI 0)]))]) (fun w => ∃ q1 q2 q3, w = [(h0, .inr (1, [.ref tb, .int (nI dg), .ref df, .ref q1, .int (nI 0), .int (nI 0), .int (nI 0), .int (nI 0)])), (q1, .inr (0, [.ref q2, .ref q3, .int (nI 0)])), (q2, .inl (gc G 0, 54, .inl (fun _ => nI 0))), (q3, .inl (gc G 0, 54, .inl (fun _ => nI 0)))]) := by
  refine yi_of (by decide) ?_
  intro pg ev sx mm bl mt cd A C0 hP hD
  obtain ⟨hx, hb, hrt, hml, hown, hg, hlocks, hK, hA, hmn, hAO, hNW⟩ := C0
  have hS : va_S A sx.heap sx.heap [] := va_S.rf
  have hl := lv_entry ([.ref h0, .ref tb, .int (nI dg), .ref df]) (n := 4) (Nat.le_of_ble_eq_true rfl)
  rw [lg_entry_eq]
  generalize (lg_sl ([.ref h0, .ref tb, .int (nI dg), .ref df]) ++ List.replicate (4 - (lg_sl ([.ref h0, .ref tb, .int (nI dg), .ref df])).length) Slot.unset).toArray = ls at hl ⊢
  have hl : lv_has ls 4 [(0, .ref h0), (1, .ref tb), (2, .int (nI dg)), (3, .ref df)] := hl
  obtain ⟨H, hH⟩ : ∃ H, H = sx.heap := ⟨_, rfl⟩
  rw [← hH] at hP
  have hS : va_S A sx.heap H [] := by rw [hH]; exact hS
  suffices h9 : W pg l ev (iR 2 60 3 (111)) sx mm _ bl mt cd H [] 0 0 (MQ bl (va_Qv _ (iB G A) A) _ sx 3 (111) A) (F0 mm 0 ls []) by rw [hH] at h9; exact h9
  obtain ⟨locs, hlo⟩ : ∃ locs : List Loc, locs = [] := ⟨_, rfl⟩
  rw [← hlo] at hS ⊢
  refine lv_aload_n hx hb d_R_init_0 rfl (lv_at hl 0 rfl) ?_
  refine W.objInit hx hb hown (hg _ tk_66) (hg _ tk_26) (hg _ tk_27) rfl (by rw [hml]; exact hl.1) rfl d_R_init_1 (Nat.le_of_ble_eq_true rfl) (Nat.le_of_ble_eq_true rfl) ?_
  refine W.eq (g2 := F0 mm 4 ls []) rfl ?_
  refine lv_aload_n hx hb d_R_init_4 rfl (lv_at hl 0 rfl) ?_
  refine va_new (D := gD G) (ci := 0) (fs := [.null, .null, .int (nI 0)]) (C := "WordShapes$Brackets") (T := TB) (N := 3) hx hb hg iw_B ft_B fo_B hown (hg _ tk_67) (hg _ tk_68) (hg _ tk_5) hK hP hD hS hA rfl (fun j hj => by rcases (show j = 0 ∨ j = 1 ∨ j = 2 by omega) with rfl | rfl | rfl <;> rfl) (by show _ ≤ 3; omega) (by show _ ≤ 111; omega) d_R_init_5 (fun q5_1 H hP hD hS => ?_)
  have hP : va_P (gD G) vwC ([(h0, .inr (1, [.null, .int (nI 0), .null, .null, .int (nI 0), .int (nI 0), .int (nI 0), .int (nI 0)])), (q5_1, .inr (0, [.null, .null, .int (nI 0)]))]) H := hP
  have hD : va_D A ([(h0, .inr (1, [.null, .int (nI 0), .null, .null, .int (nI 0), .int (nI 0), .int (nI 0), .int (nI 0)])), (q5_1, .inr (0, [.null, .null, .int (nI 0)]))]) := hD
  refine lv_dup hx hb d_R_init_8 rfl ?_
  refine yi_call (wr := [(h0, .inr (1, [.null, .int (nI 0), .null, .null, .int (nI 0), .int (nI 0), .int (nI 0), .int (nI 0)]))]) (va_runIN (As := []) (rest := [.ref q5_1, .ref h0]) ⟨hx, hb, hml, hown, hg⟩ (c_B_init l G q5_1  H.size) (gIN (n := 0) hg (nw_69 hNW) tk_70 tk_5 tk_71 rfl (by decide +kernel) ⟨Nat.le_of_ble_eq_true rfl, Nat.le_of_ble_eq_true rfl⟩) (yi_pre hNW hAO hK hP hD [1] rfl rfl) rfl rfl hl.1 rfl (lv_room (Nat.le_of_ble_eq_true rfl)) d_R_init_9 ⟨by show _ ≤ 3; omega, by show _ ≤ 111; omega⟩) hP hD hS hA [1] [0] rfl rfl rfl (by decide) (fun w9 H locs hp hP hD hS => ?_)
  obtain ⟨q1_9_2, q2_9_2, rfl⟩ := hp
  have hP : va_P (gD G) vwC ([(h0, .inr (1, [.null, .int (nI 0), .null, .null, .int (nI 0), .int (nI 0), .int (nI 0), .int (nI 0)])), (q5_1, .inr (0, [.ref q1_9_2, .ref q2_9_2, .int (nI 0)])), (q1_9_2, .inl (gc G 0, 54, .inl (fun _ => nI 0))), (q2_9_2, .inl (gc G 0, 54, .inl (fun _ => nI 0)))]) H := hP
  have hD : va_D A ([(h0, .inr (1, [.null, .int (nI 0), .null, .null, .int (nI 0), .int (nI 0), .int (nI 0), .int (nI 0)])), (q5_1, .inr (0, [.ref q1_9_2, .ref q2_9_2, .int (nI 0)])), (q1_9_2, .inl (gc G 0, 54, .inl (fun _ => nI 0))), (q2_9_2, .inl (gc G 0, 54, .inl (fun _ => nI 0)))]) := hD
  refine va_putF (D := gD G) (ci := 1) (v := .ref q5_1) (ty := .object "WordShapes$Brackets") (C := "WordShapes$Reader") (T := TR) (N := 8) hx hb hg iw_R ft_R fo_R nm_R hown hK hP hD hS 0 rfl rfl 3 (by decide) (hg _ tk_90) (fun _ h9 => h9) rfl hmn rfl (by decide +kernel) rfl rfl (Nat.le_of_ble_eq_true rfl) d_R_init_12 (fun H locs hP hD hS => ?_)
  have hP : va_P (gD G) vwC ([(h0, .inr (1, [.null, .int (nI 0), .null, .ref q5_1, .int (nI 0), .int (nI 0), .int (nI 0), .int (nI 0)])), (q5_1, .inr (0, [.ref q1_9_2, .ref q2_9_2, .int (nI 0)])), (q1_9_2, .inl (gc G 0, 54, .inl (fun _ => nI 0))), (q2_9_2, .inl (gc G 0, 54, .inl (fun _ => nI 0)))]) H := hP
  have hD : va_D A ([(h0, .inr (1, [.null, .int (nI 0), .null, .ref q5_1, .int (nI 0), .int (nI 0), .int (nI 0), .int (nI 0)])), (q5_1, .inr (0, [.ref q1_9_2, .ref q2_9_2, .int (nI 0)])), (q1_9_2, .inl (gc G 0, 54, .inl (fun _ => nI 0))), (q2_9_2, .inl (gc G 0, 54, .inl (fun _ => nI 0)))]) := hD
  refine lv_aload_n hx hb d_R_init_15 rfl (lv_at hl 0 rfl) ?_
  refine lv_aload_n hx hb d_R_init_16 rfl (lv_at hl 1 rfl) ?_
  refine va_putF (D := gD G) (ci := 1) (v := .ref tb) (ty := .array (.byte)) (C := "WordShapes$Reader") (T := TR) (N := 8) hx hb hg iw_R ft_R fo_R nm_R hown hK hP hD hS 0 rfl rfl 0 (by decide) (hg _ tk_86) (fun _ h9 => h9) rfl hmn rfl (by decide +kernel) rfl rfl (Nat.le_of_ble_eq_true rfl) d_R_init_17 (fun H locs hP hD hS => ?_)
  have hP : va_P (gD G) vwC ([(h0, .inr (1, [.ref tb, .int (nI 0), .null, .ref q5_1, .int (nI 0), .int (nI 0), .int (nI 0), .int (nI 0)])), (q5_1, .inr (0, [.ref q1_9_2, .ref q2_9_2, .int (nI 0)])), (q1_9_2, .inl (gc G 0, 54, .inl (fun _ => nI 0))), (q2_9_2, .inl (gc G 0, 54, .inl (fun _ => nI 0)))]) H := hP
  have hD : va_D A ([(h0, .inr (1, [.ref tb, .int (nI 0), .null, .ref q5_1, .int (nI 0), .int (nI 0), .int (nI 0), .int (nI 0)])), (q5_1, .inr (0, [.ref q1_9_2, .ref q2_9_2, .int (nI 0)])), (q1_9_2, .inl (gc G 0, 54, .inl (fun _ => nI 0))), (q2_9_2, .inl (gc G 0, 54, .inl (fun _ => nI 0)))]) := hD
  refine lv_aload_n hx hb d_R_init_20 rfl (lv_at hl 0 rfl) ?_
  refine lv_iload_n hx hb d_R_init_21 rfl (lv_at hl 2 rfl) ?_
  refine va_putF (D := gD G) (ci := 1) (v := .int (nI dg)) (ty := .int) (C := "WordShapes$Reader") (T := TR) (N := 8) hx hb hg iw_R ft_R fo_R nm_R hown hK hP hD hS 0 rfl rfl 1 (by decide) (hg _ tk_87) (fun _ h9 => h9) rfl hmn rfl (by decide +kernel) rfl rfl (Nat.le_of_ble_eq_true rfl) d_R_init_22 (fun H locs hP hD hS => ?_)
  have hP : va_P (gD G) vwC ([(h0, .inr (1, [.ref tb, .int (nI dg), .null, .ref q5_1, .int (nI 0), .int (nI 0), .int (nI 0), .int (nI 0)])), (q5_1, .inr (0, [.ref q1_9_2, .ref q2_9_2, .int (nI 0)])), (q1_9_2, .inl (gc G 0, 54, .inl (fun _ => nI 0))), (q2_9_2, .inl (gc G 0, 54, .inl (fun _ => nI 0)))]) H := hP
  have hD : va_D A ([(h0, .inr (1, [.ref tb, .int (nI dg), .null, .ref q5_1, .int (nI 0), .int (nI 0), .int (nI 0), .int (nI 0)])), (q5_1, .inr (0, [.ref q1_9_2, .ref q2_9_2, .int (nI 0)])), (q1_9_2, .inl (gc G 0, 54, .inl (fun _ => nI 0))), (q2_9_2, .inl (gc G 0, 54, .inl (fun _ => nI 0)))]) := hD
  refine lv_aload_n hx hb d_R_init_25 rfl (lv_at hl 0 rfl) ?_
  refine lv_aload_n hx hb d_R_init_26 rfl (lv_at hl 3 rfl) ?_
  refine va_putF (D := gD G) (ci := 1) (v := .ref df) (ty := .object "WordShapes$Shape") (C := "WordShapes$Reader") (T := TR) (N := 8) hx hb hg iw_R ft_R fo_R nm_R hown hK hP hD hS 0 rfl rfl 2 (by decide) (hg _ tk_88) (fun _ h9 => h9) rfl hmn rfl (by decide +kernel) rfl rfl (Nat.le_of_ble_eq_true rfl) d_R_init_27 (fun H locs hP hD hS => ?_)
  have hP : va_P (gD G) vwC ([(h0, .inr (1, [.ref tb, .int (nI dg), .ref df, .ref q5_1, .int (nI 0), .int (nI 0), .int (nI 0), .int (nI 0)])), (q5_1, .inr (0, [.ref q1_9_2, .ref q2_9_2, .int (nI 0)])), (q1_9_2, .inl (gc G 0, 54, .inl (fun _ => nI 0))), (q2_9_2, .inl (gc G 0, 54, .inl (fun _ => nI 0)))]) H := hP
  have hD : va_D A ([(h0, .inr (1, [.ref tb, .int (nI dg), .ref df, .ref q5_1, .int (nI 0), .int (nI 0), .int (nI 0), .int (nI 0)])), (q5_1, .inr (0, [.ref q1_9_2, .ref q2_9_2, .int (nI 0)])), (q1_9_2, .inl (gc G 0, 54, .inl (fun _ => nI 0))), (q2_9_2, .inl (gc G 0, 54, .inl (fun _ => nI 0)))]) := hD
  have hP := hP.sub (ws' := [(h0, .inr (1, [.ref tb, .int (nI dg), .ref df, .ref q5_1, .int (nI 0), .int (nI 0), .int (nI 0), .int (nI 0)])), (q5_1, .inr (0, [.ref q1_9_2, .ref q2_9_2, .int (nI 0)])), (q1_9_2, .inl (gc G 0, 54, .inl (fun _ => nI 0))), (q2_9_2, .inl (gc G 0, 54, .inl (fun _ => nI 0)))]) [0, 1, 2, 3] rfl
  have hD := hD.sub (ws' := [(h0, .inr (1, [.ref tb, .int (nI dg), .ref df, .ref q5_1, .int (nI 0), .int (nI 0), .int (nI 0), .int (nI 0)])), (q5_1, .inr (0, [.ref q1_9_2, .ref q2_9_2, .int (nI 0)])), (q1_9_2, .inl (gc G 0, 54, .inl (fun _ => nI 0))), (q2_9_2, .inl (gc G 0, 54, .inl (fun _ => nI 0)))]) [0, 1, 2, 3] (by decide) rfl
  exact yi_ret hx hb hrt hlocks (by show _ ≤ 3; omega) (by show _ ≤ 111; omega) (⟨_, _, _, rfl⟩) hK hP hD hS d_R_init_30
set_option maxHeartbeats 4000000 in
set_option maxRecDepth 100000 in
theorem c_T_init (l : Launch) (G : gl) (h0 : Nat) (dg : Nat)  : YI l G y_T_init k_T_init 2 2 60 5 (131195) [.ref h0, .int (nI dg)] ([(h0, .inr (3, [.null, .int (nI 0), .null, .null, .int (nI 0), .int (bz false), .int (nI 0), .int (nI 0), .int (nI 0), .int (bz false)]))]) (fun w => ∃ q1 q2 q3 q4 q5, w = [(h0, .inr (3, [.ref q1, .int (nI dg), .ref q2, .ref q3, .int (nI 0), .int (bz false), .int (nI 0), .int (nI 0), .int (nI 0), .int (bz false)])), (q1, .inl (gc G 1, 131072, .inl (fun _ => sb_b 0))), (q2, .inl (gc G 0, 12, .inl (fun _ => nI 0))), (q3, .inr (0, [.ref q4, .ref q5, .int (nI 0)])), (q4, .inl (gc G 0, 54, .inl (fun _ => nI 0))), (q5, .inl (gc G 0, 54, .inl (fun _ => nI 0)))]) := by
  refine yi_of (by decide) ?_
  intro pg ev sx mm bl mt cd A C0 hP hD
  obtain ⟨hx, hb, hrt, hml, hown, hg, hlocks, hK, hA, hmn, hAO, hNW⟩ := C0
  have hS : va_S A sx.heap sx.heap [] := va_S.rf
  have hl := lv_entry ([.ref h0, .int (nI dg)]) (n := 2) (Nat.le_of_ble_eq_true rfl)
  rw [lg_entry_eq]
  generalize (lg_sl ([.ref h0, .int (nI dg)]) ++ List.replicate (2 - (lg_sl ([.ref h0, .int (nI dg)])).length) Slot.unset).toArray = ls at hl ⊢
  have hl : lv_has ls 2 [(0, .ref h0), (1, .int (nI dg))] := hl
  obtain ⟨H, hH⟩ : ∃ H, H = sx.heap := ⟨_, rfl⟩
  rw [← hH] at hP
  have hS : va_S A sx.heap H [] := by rw [hH]; exact hS
  suffices h9 : W pg l ev (iR 2 60 5 (131195)) sx mm _ bl mt cd H [] 0 0 (MQ bl (va_Qv _ (iB G A) A) _ sx 5 (131195) A) (F0 mm 0 ls []) by rw [hH] at h9; exact h9
  obtain ⟨locs, hlo⟩ : ∃ locs : List Loc, locs = [] := ⟨_, rfl⟩
  rw [← hlo] at hS ⊢
  refine lv_aload_n hx hb d_T_init_0 rfl (lv_at hl 0 rfl) ?_
  refine W.objInit hx hb hown (hg _ tk_119) (hg _ tk_26) (hg _ tk_27) rfl (by rw [hml]; exact hl.1) rfl d_T_init_1 (Nat.le_of_ble_eq_true rfl) (Nat.le_of_ble_eq_true rfl) ?_
  refine W.eq (g2 := F0 mm 4 ls []) rfl ?_
  refine lv_aload_n hx hb d_T_init_4 rfl (lv_at hl 0 rfl) ?_
  refine lv_ldc (v := nI 131072) hx hb hown (hg _ tk_120) d_T_init_5 ?_
  refine y_newB (n := 131072) hx hb (hg _ tk_85) hK hP hD hS hA (by omega) (by show _ ≤ 5; omega) (by show _ ≤ 131195; omega) d_T_init_7 (fun q7 H hP hD hS => ?_)
  have hP : va_P (gD G) vwC ([(h0, .inr (3, [.null, .int (nI 0), .null, .null, .int (nI 0), .int (bz false), .int (nI 0), .int (nI 0), .int (nI 0), .int (bz false)])), (q7, .inl (gc G 1, 131072, .inl (fun _ => sb_b 0)))]) H := hP
  have hD : va_D A ([(h0, .inr (3, [.null, .int (nI 0), .null, .null, .int (nI 0), .int (bz false), .int (nI 0), .int (nI 0), .int (nI 0), .int (bz false)])), (q7, .inl (gc G 1, 131072, .inl (fun _ => sb_b 0)))]) := hD
  refine va_putF (D := gD G) (ci := 3) (v := .ref q7) (ty := .array (.byte)) (C := "WordShapes$Writer") (T := TT) (N := 10) hx hb hg iw_T ft_T fo_T nm_T hown hK hP hD hS 0 rfl rfl 0 (by decide) (hg _ tk_123) (fun _ h9 => h9) rfl hmn rfl (by decide +kernel) rfl rfl (Nat.le_of_ble_eq_true rfl) d_T_init_9 (fun H locs hP hD hS => ?_)
  have hP : va_P (gD G) vwC ([(h0, .inr (3, [.ref q7, .int (nI 0), .null, .null, .int (nI 0), .int (bz false), .int (nI 0), .int (nI 0), .int (nI 0), .int (bz false)])), (q7, .inl (gc G 1, 131072, .inl (fun _ => sb_b 0)))]) H := hP
  have hD : va_D A ([(h0, .inr (3, [.ref q7, .int (nI 0), .null, .null, .int (nI 0), .int (bz false), .int (nI 0), .int (nI 0), .int (nI 0), .int (bz false)])), (q7, .inl (gc G 1, 131072, .inl (fun _ => sb_b 0)))]) := hD
  refine lv_aload_n hx hb d_T_init_12 rfl (lv_at hl 0 rfl) ?_
  refine lv_bipush (v := nI 12) hx hb d_T_init_13 (by decide) ?_
  refine y_newI (n := 12) hx hb (hg _ tk_59) hK hP hD hS hA (by omega) (by show _ ≤ 5; omega) (by show _ ≤ 131195; omega) d_T_init_15 (fun q15 H hP hD hS => ?_)
  have hP : va_P (gD G) vwC ([(h0, .inr (3, [.ref q7, .int (nI 0), .null, .null, .int (nI 0), .int (bz false), .int (nI 0), .int (nI 0), .int (nI 0), .int (bz false)])), (q7, .inl (gc G 1, 131072, .inl (fun _ => sb_b 0))), (q15, .inl (gc G 0, 12, .inl (fun _ => nI 0)))]) H := hP
  have hD : va_D A ([(h0, .inr (3, [.ref q7, .int (nI 0), .null, .null, .int (nI 0), .int (bz false), .int (nI 0), .int (nI 0), .int (nI 0), .int (bz false)])), (q7, .inl (gc G 1, 131072, .inl (fun _ => sb_b 0))), (q15, .inl (gc G 0, 12, .inl (fun _ => nI 0)))]) := hD
  refine va_putF (D := gD G) (ci := 3) (v := .ref q15) (ty := .array (.int)) (C := "WordShapes$Writer") (T := TT) (N := 10) hx hb hg iw_T ft_T fo_T nm_T hown hK hP hD hS 0 rfl rfl 2 (by decide) (hg _ tk_126) (fun _ h9 => h9) rfl hmn rfl (by decide +kernel) rfl rfl (Nat.le_of_ble_eq_true rfl) d_T_init_17 (fun H locs hP hD hS => ?_)
  have hP : va_P (gD G) vwC ([(h0, .inr (3, [.ref q7, .int (nI 0), .ref q15, .null, .int (nI 0), .int (bz false), .int (nI 0), .int (nI 0), .int (nI 0), .int (bz false)])), (q7, .inl (gc G 1, 131072, .inl (fun _ => sb_b 0))), (q15, .inl (gc G 0, 12, .inl (fun _ => nI 0)))]) H := hP
  have hD : va_D A ([(h0, .inr (3, [.ref q7, .int (nI 0), .ref q15, .null, .int (nI 0), .int (bz false), .int (nI 0), .int (nI 0), .int (nI 0), .int (bz false)])), (q7, .inl (gc G 1, 131072, .inl (fun _ => sb_b 0))), (q15, .inl (gc G 0, 12, .inl (fun _ => nI 0)))]) := hD
  refine lv_aload_n hx hb d_T_init_20 rfl (lv_at hl 0 rfl) ?_
  refine va_new (D := gD G) (ci := 0) (fs := [.null, .null, .int (nI 0)]) (C := "WordShapes$Brackets") (T := TB) (N := 3) hx hb hg iw_B ft_B fo_B hown (hg _ tk_121) (hg _ tk_68) (hg _ tk_5) hK hP hD hS hA rfl (fun j hj => by rcases (show j = 0 ∨ j = 1 ∨ j = 2 by omega) with rfl | rfl | rfl <;> rfl) (by show _ ≤ 5; omega) (by show _ ≤ 131195; omega) d_T_init_21 (fun q21_1 H hP hD hS => ?_)
  have hP : va_P (gD G) vwC ([(h0, .inr (3, [.ref q7, .int (nI 0), .ref q15, .null, .int (nI 0), .int (bz false), .int (nI 0), .int (nI 0), .int (nI 0), .int (bz false)])), (q7, .inl (gc G 1, 131072, .inl (fun _ => sb_b 0))), (q15, .inl (gc G 0, 12, .inl (fun _ => nI 0))), (q21_1, .inr (0, [.null, .null, .int (nI 0)]))]) H := hP
  have hD : va_D A ([(h0, .inr (3, [.ref q7, .int (nI 0), .ref q15, .null, .int (nI 0), .int (bz false), .int (nI 0), .int (nI 0), .int (nI 0), .int (bz false)])), (q7, .inl (gc G 1, 131072, .inl (fun _ => sb_b 0))), (q15, .inl (gc G 0, 12, .inl (fun _ => nI 0))), (q21_1, .inr (0, [.null, .null, .int (nI 0)]))]) := hD
  refine lv_dup hx hb d_T_init_24 rfl ?_
  refine yi_call (wr := [(h0, .inr (3, [.ref q7, .int (nI 0), .ref q15, .null, .int (nI 0), .int (bz false), .int (nI 0), .int (nI 0), .int (nI 0), .int (bz false)])), (q7, .inl (gc G 1, 131072, .inl (fun _ => sb_b 0))), (q15, .inl (gc G 0, 12, .inl (fun _ => nI 0)))]) (va_runIN (As := []) (rest := [.ref q21_1, .ref h0]) ⟨hx, hb, hml, hown, hg⟩ (c_B_init l G q21_1  H.size) (gIN (n := 0) hg (nw_122 hNW) tk_70 tk_5 tk_71 rfl (by decide +kernel) ⟨Nat.le_of_ble_eq_true rfl, Nat.le_of_ble_eq_true rfl⟩) (yi_pre hNW hAO hK hP hD [3] rfl rfl) rfl rfl hl.1 rfl (lv_room (Nat.le_of_ble_eq_true rfl)) d_T_init_25 ⟨by show _ ≤ 5; omega, by show _ ≤ 131195; omega⟩) hP hD hS hA [3] [0, 1, 2] rfl rfl rfl (by decide) (fun w9 H locs hp hP hD hS => ?_)
  obtain ⟨q1_25_2, q2_25_2, rfl⟩ := hp
  have hP : va_P (gD G) vwC ([(h0, .inr (3, [.ref q7, .int (nI 0), .ref q15, .null, .int (nI 0), .int (bz false), .int (nI 0), .int (nI 0), .int (nI 0), .int (bz false)])), (q7, .inl (gc G 1, 131072, .inl (fun _ => sb_b 0))), (q15, .inl (gc G 0, 12, .inl (fun _ => nI 0))), (q21_1, .inr (0, [.ref q1_25_2, .ref q2_25_2, .int (nI 0)])), (q1_25_2, .inl (gc G 0, 54, .inl (fun _ => nI 0))), (q2_25_2, .inl (gc G 0, 54, .inl (fun _ => nI 0)))]) H := hP
  have hD : va_D A ([(h0, .inr (3, [.ref q7, .int (nI 0), .ref q15, .null, .int (nI 0), .int (bz false), .int (nI 0), .int (nI 0), .int (nI 0), .int (bz false)])), (q7, .inl (gc G 1, 131072, .inl (fun _ => sb_b 0))), (q15, .inl (gc G 0, 12, .inl (fun _ => nI 0))), (q21_1, .inr (0, [.ref q1_25_2, .ref q2_25_2, .int (nI 0)])), (q1_25_2, .inl (gc G 0, 54, .inl (fun _ => nI 0))), (q2_25_2, .inl (gc G 0, 54, .inl (fun _ => nI 0)))]) := hD
  refine va_putF (D := gD G) (ci := 3) (v := .ref q21_1) (ty := .object "WordShapes$Brackets") (C := "WordShapes$Writer") (T := TT) (N := 10) hx hb hg iw_T ft_T fo_T nm_T hown hK hP hD hS 0 rfl rfl 3 (by decide) (hg _ tk_127) (fun _ h9 => h9) rfl hmn rfl (by decide +kernel) rfl rfl (Nat.le_of_ble_eq_true rfl) d_T_init_28 (fun H locs hP hD hS => ?_)
  have hP : va_P (gD G) vwC ([(h0, .inr (3, [.ref q7, .int (nI 0), .ref q15, .ref q21_1, .int (nI 0), .int (bz false), .int (nI 0), .int (nI 0), .int (nI 0), .int (bz false)])), (q7, .inl (gc G 1, 131072, .inl (fun _ => sb_b 0))), (q15, .inl (gc G 0, 12, .inl (fun _ => nI 0))), (q21_1, .inr (0, [.ref q1_25_2, .ref q2_25_2, .int (nI 0)])), (q1_25_2, .inl (gc G 0, 54, .inl (fun _ => nI 0))), (q2_25_2, .inl (gc G 0, 54, .inl (fun _ => nI 0)))]) H := hP
  have hD : va_D A ([(h0, .inr (3, [.ref q7, .int (nI 0), .ref q15, .ref q21_1, .int (nI 0), .int (bz false), .int (nI 0), .int (nI 0), .int (nI 0), .int (bz false)])), (q7, .inl (gc G 1, 131072, .inl (fun _ => sb_b 0))), (q15, .inl (gc G 0, 12, .inl (fun _ => nI 0))), (q21_1, .inr (0, [.ref q1_25_2, .ref q2_25_2, .int (nI 0)])), (q1_25_2, .inl (gc G 0, 54, .inl (fun _ => nI 0))), (q2_25_2, .inl (gc G 0, 54, .inl (fun _ => nI 0)))]) := hD
  refine lv_aload_n hx hb d_T_init_31 rfl (lv_at hl 0 rfl) ?_
  refine lv_iload_n hx hb d_T_init_32 rfl (lv_at hl 1 rfl) ?_
  refine va_putF (D := gD G) (ci := 3) (v := .int (nI dg)) (ty := .int) (C := "WordShapes$Writer") (T := TT) (N := 10) hx hb hg iw_T ft_T fo_T nm_T hown hK hP hD hS 0 rfl rfl 1 (by decide) (hg _ tk_125) (fun _ h9 => h9) rfl hmn rfl (by decide +kernel) rfl rfl (Nat.le_of_ble_eq_true rfl) d_T_init_33 (fun H locs hP hD hS => ?_)
  have hP : va_P (gD G) vwC ([(h0, .inr (3, [.ref q7, .int (nI dg), .ref q15, .ref q21_1, .int (nI 0), .int (bz false), .int (nI 0), .int (nI 0), .int (nI 0), .int (bz false)])), (q7, .inl (gc G 1, 131072, .inl (fun _ => sb_b 0))), (q15, .inl (gc G 0, 12, .inl (fun _ => nI 0))), (q21_1, .inr (0, [.ref q1_25_2, .ref q2_25_2, .int (nI 0)])), (q1_25_2, .inl (gc G 0, 54, .inl (fun _ => nI 0))), (q2_25_2, .inl (gc G 0, 54, .inl (fun _ => nI 0)))]) H := hP
  have hD : va_D A ([(h0, .inr (3, [.ref q7, .int (nI dg), .ref q15, .ref q21_1, .int (nI 0), .int (bz false), .int (nI 0), .int (nI 0), .int (nI 0), .int (bz false)])), (q7, .inl (gc G 1, 131072, .inl (fun _ => sb_b 0))), (q15, .inl (gc G 0, 12, .inl (fun _ => nI 0))), (q21_1, .inr (0, [.ref q1_25_2, .ref q2_25_2, .int (nI 0)])), (q1_25_2, .inl (gc G 0, 54, .inl (fun _ => nI 0))), (q2_25_2, .inl (gc G 0, 54, .inl (fun _ => nI 0)))]) := hD
  have hP := hP.sub (ws' := [(h0, .inr (3, [.ref q7, .int (nI dg), .ref q15, .ref q21_1, .int (nI 0), .int (bz false), .int (nI 0), .int (nI 0), .int (nI 0), .int (bz false)])), (q7, .inl (gc G 1, 131072, .inl (fun _ => sb_b 0))), (q15, .inl (gc G 0, 12, .inl (fun _ => nI 0))), (q21_1, .inr (0, [.ref q1_25_2, .ref q2_25_2, .int (nI 0)])), (q1_25_2, .inl (gc G 0, 54, .inl (fun _ => nI 0))), (q2_25_2, .inl (gc G 0, 54, .inl (fun _ => nI 0)))]) [0, 1, 2, 3, 4, 5] rfl
  have hD := hD.sub (ws' := [(h0, .inr (3, [.ref q7, .int (nI dg), .ref q15, .ref q21_1, .int (nI 0), .int (bz false), .int (nI 0), .int (nI 0), .int (nI 0), .int (bz false)])), (q7, .inl (gc G 1, 131072, .inl (fun _ => sb_b 0))), (q15, .inl (gc G 0, 12, .inl (fun _ => nI 0))), (q21_1, .inr (0, [.ref q1_25_2, .ref q2_25_2, .int (nI 0)])), (q1_25_2, .inl (gc G 0, 54, .inl (fun _ => nI 0))), (q2_25_2, .inl (gc G 0, 54, .inl (fun _ => nI 0)))]) [0, 1, 2, 3, 4, 5] (by decide) rfl
  exact yi_ret hx hb hrt hlocks (by show _ ≤ 5; omega) (by show _ ≤ 131195; omega) (⟨_, _, _, _, _, rfl⟩) hK hP hD hS d_T_init_36
