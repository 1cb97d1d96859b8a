set_option maxHeartbeats 4000000 in
set_option maxRecDepth 100000 in
theorem c_B_start (l : Launch) (G : gl) (h : Nat → Nat) (t : Nat) (f : Nat → Int32) (g : Nat → Int32) (x : Int32)  : YC l G y_B_start k_B_start 2 (Option.none : Option FieldType) 0 0 [.ref (h 0), .int x] (wB G h t f g) (fun v w => v = none ∧ w = wB G h 0 (upd f 0 (nI 0)) (upd g 0 x)) (fun _ _ => False) := by
  refine yc_of (by decide) ?_
  intro pg ev sx mm bl mt cd A C0 hP hD
  obtain ⟨hx, hb, hrt, hml, hown, hg, hlocks, hxt, hE, hK, hA, hmn⟩ := C0
  have hS : va_S A sx.heap sx.heap [] := va_S.rf
  have hl := lv_entry ([.ref (h 0), .int x]) (n := 2) (Nat.le_of_ble_eq_true rfl)
  rw [lg_entry_eq]
  generalize (lg_sl ([.ref (h 0), .int x]) ++ List.replicate (2 - (lg_sl ([.ref (h 0), .int x])).length) Slot.unset).toArray = ls at hl ⊢
  have hl : lv_has ls 2 [(0, .ref (h 0)), (1, .int x)] := hl
  obtain ⟨H, hH⟩ : ∃ H, H = sx.heap := ⟨_, rfl⟩
  rw [← hH] at hP
  have hS : va_S A sx.heap H [] := by rw [hH]; exact hS
  suffices h9 : W pg l ev (yR 0 0) sx mm _ bl mt cd H [] 0 0 (yMQ bl G A _ _ _ _ sx) (F0 mm 0 ls []) by rw [hH] at h9; exact h9
  obtain ⟨locs, hlo⟩ : ∃ locs : List Loc, locs = [] := ⟨_, rfl⟩
  rw [← hlo] at hS ⊢
  refine lv_aload_n hx hb d_B_start_0 rfl (lv_at hl 0 rfl) ?_
  refine lv_iconst (v := nI 0) hx hb d_B_start_1 (by decide) ?_
  refine va_put (D := gD G) (ci := 0) (v := .int (nI 0)) (ty := .int) (C := "WordShapes$Brackets") (T := TB) (N := 3) hx hb hg iw_B ft_B fo_B nm_B hown hK hP hD hS 0 rfl rfl 2 (by decide) (hg _ tk_75) (fun _ h9 => h9) rfl (by decide +kernel) (rfl) (rfl) (Nat.le_of_ble_eq_true rfl) d_B_start_2 (fun H locs hP hD hS => ?_)
  have hP : va_P (gD G) vwC (wB G h 0 f g) H := hP
  have hD : va_D A (wB G h 0 f g) := hD
  refine lv_aload_n hx hb d_B_start_5 rfl (lv_at hl 0 rfl) ?_
  refine va_get (D := gD G) (ci := 0) (v := .ref (h 1)) (C := "WordShapes$Brackets") (T := TB) (N := 3) hx hb hg iw_B hown hK hP 0 rfl rfl 0 (by decide) (hg _ tk_73) (fun _ h9 => h9) rfl d_B_start_6 ?_
  refine lv_iconst (v := nI 0) hx hb d_B_start_9 (by decide) ?_
  refine lv_iconst (v := nI 0) hx hb d_B_start_10 (by decide) ?_
  refine yn_iast hx hb hK hP hD hS 1 0 rfl rfl (j := 0) (x := nI 0) (f1 := upd f 0 (nI 0)) (rfl) (by omega) (by omega) d_B_start_11 (fun H locs hP hD hS => ?_)
  have hP : va_P (gD G) vwC (wB G h 0 (upd f 0 (nI 0)) g) H := hP
  have hD : va_D A (wB G h 0 (upd f 0 (nI 0)) g) := hD
  refine lv_aload_n hx hb d_B_start_12 rfl (lv_at hl 0 rfl) ?_
  refine va_get (D := gD G) (ci := 0) (v := .ref (h 2)) (C := "WordShapes$Brackets") (T := TB) (N := 3) hx hb hg iw_B hown hK hP 0 rfl rfl 1 (by decide) (hg _ tk_74) (fun _ h9 => h9) rfl d_B_start_13 ?_
  refine lv_iconst (v := nI 0) hx hb d_B_start_16 (by decide) ?_
  refine lv_iload_n hx hb d_B_start_17 rfl (lv_at hl 1 rfl) ?_
  refine yn_iast hx hb hK hP hD hS 2 0 rfl rfl (j := 0) (x := x) (f1 := upd g 0 x) (rfl) (by omega) (by omega) d_B_start_18 (fun H locs hP hD hS => ?_)
  have hP : va_P (gD G) vwC (wB G h 0 (upd f 0 (nI 0)) (upd g 0 x)) H := hP
  have hD : va_D A (wB G h 0 (upd f 0 (nI 0)) (upd g 0 x)) := hD
  exact yr_v (ws := wB G h 0 (upd f 0 (nI 0)) (upd g 0 x)) hx hb hrt hlocks (⟨rfl, rfl⟩) rfl hK hP hD hS d_B_start_19
set_option maxHeartbeats 4000000 in
set_option maxRecDepth 100000 in
theorem c_B_open (l : Launch) (G : gl) (h : Nat → Nat) (t : Nat) (f : Nat → Int32) (g : Nat → Int32) (kd : Int32) (x : Int32) (hbt : t < 53) : YC l G y_B_open k_B_open 3 (Option.none : Option FieldType) 0 0 [.ref (h 0), .int kd, .int x] (wB G h t f g) (fun v w => v = none ∧ w = wB G h (t + 1) (upd f (t + 1) kd) (upd g (t + 1) x)) (fun _ _ => False) := by
  refine yc_of (by decide) ?_
  intro pg ev sx mm bl mt cd A C0 hP hD
  obtain ⟨hx, hb, hrt, hml, hown, hg, hlocks, hxt, hE, hK, hA, hmn⟩ := C0
  have hS : va_S A sx.heap sx.heap [] := va_S.rf
  have hl := lv_entry ([.ref (h 0), .int kd, .int x]) (n := 3) (Nat.le_of_ble_eq_true rfl)
  rw [lg_entry_eq]
  generalize (lg_sl ([.ref (h 0), .int kd, .int x]) ++ List.replicate (3 - (lg_sl ([.ref (h 0), .int kd, .int x])).length) Slot.unset).toArray = ls at hl ⊢
  have hl : lv_has ls 3 [(0, .ref (h 0)), (1, .int kd), (2, .int x)] := hl
  obtain ⟨H, hH⟩ : ∃ H, H = sx.heap := ⟨_, rfl⟩
  rw [← hH] at hP
  have hS : va_S A sx.heap H [] := by rw [hH]; exact hS
  suffices h9 : W pg l ev (yR 0 0) sx mm _ bl mt cd H [] 0 0 (yMQ bl G A _ _ _ _ sx) (F0 mm 0 ls []) by rw [hH] at h9; exact h9
  obtain ⟨locs, hlo⟩ : ∃ locs : List Loc, locs = [] := ⟨_, rfl⟩
  rw [← hlo] at hS ⊢
  refine lv_aload_n hx hb d_B_open_0 rfl (lv_at hl 0 rfl) ?_
  refine va_get (D := gD G) (ci := 0) (v := .int (nI t)) (C := "WordShapes$Brackets") (T := TB) (N := 3) hx hb hg iw_B hown hK hP 0 rfl rfl 2 (by decide) (hg _ tk_75) (fun _ h9 => h9) rfl d_B_open_1 ?_
  refine lv_bipush (v := nI 53) hx hb d_B_open_4 (by decide) ?_
  refine yn_icmp_ge (a := t) (b := 53) (tgt := 39) hx hb d_B_open_6 (by decide) (by omega) (by omega) (fun c6 => ?_) (fun c6 => ?_)
  · skip
    exact absurd c6 (by omega)
  · skip
    refine lv_aload_n hx hb d_B_open_9 rfl (lv_at hl 0 rfl) ?_
    refine lv_dup hx hb d_B_open_10 rfl ?_
    refine va_get (D := gD G) (ci := 0) (v := .int (nI t)) (C := "WordShapes$Brackets") (T := TB) (N := 3) hx hb hg iw_B hown hK hP 0 rfl rfl 2 (by decide) (hg _ tk_75) (fun _ h9 => h9) rfl d_B_open_11 ?_
    refine lv_iconst (v := nI 1) hx hb d_B_open_14 (by decide) ?_
    refine lv_iadd hx hb d_B_open_15 ?_
    refine y_eqi (nI_add _ _) ?_
    refine va_put (D := gD G) (ci := 0) (v := .int (nI (t + 1))) (ty := .int) (C := "WordShapes$Brackets") (T := TB) (N := 3) hx hb hg iw_B ft_B fo_B nm_B hown hK hP hD hS 0 rfl rfl 2 (by decide) (hg _ tk_75) (fun _ h9 => h9) rfl (by decide +kernel) (rfl) (rfl) (Nat.le_of_ble_eq_true rfl) d_B_open_16 (fun H locs hP hD hS => ?_)
    have hP : va_P (gD G) vwC (wB G h (t + 1) f g) H := hP
    have hD : va_D A (wB G h (t + 1) f g) := hD
    refine lv_aload_n hx hb d_B_open_19 rfl (lv_at hl 0 rfl) ?_
    refine va_get (D := gD G) (ci := 0) (v := .ref (h 1)) (C := "WordShapes$Brackets") (T := TB) (N := 3) hx hb hg iw_B hown hK hP 0 rfl rfl 0 (by decide) (hg _ tk_73) (fun _ h9 => h9) rfl d_B_open_20 ?_
    refine lv_aload_n hx hb d_B_open_23 rfl (lv_at hl 0 rfl) ?_
    refine va_get (D := gD G) (ci := 0) (v := .int (nI (t + 1))) (C := "WordShapes$Brackets") (T := TB) (N := 3) hx hb hg iw_B hown hK hP 0 rfl rfl 2 (by decide) (hg _ tk_75) (fun _ h9 => h9) rfl d_B_open_24 ?_
    refine lv_iload_n hx hb d_B_open_27 rfl (lv_at hl 1 rfl) ?_
    refine yn_iast hx hb hK hP hD hS 1 0 rfl rfl (j := t + 1) (x := kd) (f1 := upd f (t + 1) kd) (rfl) (by omega) (by omega) d_B_open_28 (fun H locs hP hD hS => ?_)
    have hP : va_P (gD G) vwC (wB G h (t + 1) (upd f (t + 1) kd) g) H := hP
    have hD : va_D A (wB G h (t + 1) (upd f (t + 1) kd) g) := hD
    refine lv_aload_n hx hb d_B_open_29 rfl (lv_at hl 0 rfl) ?_
    refine va_get (D := gD G) (ci := 0) (v := .ref (h 2)) (C := "WordShapes$Brackets") (T := TB) (N := 3) hx hb hg iw_B hown hK hP 0 rfl rfl 1 (by decide) (hg _ tk_74) (fun _ h9 => h9) rfl d_B_open_30 ?_
    refine lv_aload_n hx hb d_B_open_33 rfl (lv_at hl 0 rfl) ?_
    refine va_get (D := gD G) (ci := 0) (v := .int (nI (t + 1))) (C := "WordShapes$Brackets") (T := TB) (N := 3) hx hb hg iw_B hown hK hP 0 rfl rfl 2 (by decide) (hg _ tk_75) (fun _ h9 => h9) rfl d_B_open_34 ?_
    refine lv_iload_n hx hb d_B_open_37 rfl (lv_at hl 2 rfl) ?_
    refine yn_iast hx hb hK hP hD hS 2 0 rfl rfl (j := t + 1) (x := x) (f1 := upd g (t + 1) x) (rfl) (by omega) (by omega) d_B_open_38 (fun H locs hP hD hS => ?_)
    have hP : va_P (gD G) vwC (wB G h (t + 1) (upd f (t + 1) kd) (upd g (t + 1) x)) H := hP
    have hD : va_D A (wB G h (t + 1) (upd f (t + 1) kd) (upd g (t + 1) x)) := hD
    exact yr_v (ws := wB G h (t + 1) (upd f (t + 1) kd) (upd g (t + 1) x)) hx hb hrt hlocks (⟨rfl, rfl⟩) rfl hK hP hD hS d_B_open_39
set_option maxHeartbeats 4000000 in
set_option maxRecDepth 100000 in
theorem c_B_close (l : Launch) (G : gl) (h : Nat → Nat) (t : Nat) (f : Nat → Int32) (g : Nat → Int32)  (hbt : 0 < t) (h54 : t < 54) : YC l G y_B_close k_B_close 1 (Option.none : Option FieldType) 0 0 [.ref (h 0)] (wB G h t f g) (fun v w => v = none ∧ w = wB G h (t - 1) f g) (fun _ _ => False) := by
  refine yc_of (by decide) ?_
  intro pg ev sx mm bl mt cd A C0 hP hD
  obtain ⟨hx, hb, hrt, hml, hown, hg, hlocks, hxt, hE, hK, hA, hmn⟩ := C0
  have hS : va_S A sx.heap sx.heap [] := va_S.rf
  have hl := lv_entry ([.ref (h 0)]) (n := 1) (Nat.le_of_ble_eq_true rfl)
  rw [lg_entry_eq]
  generalize (lg_sl ([.ref (h 0)]) ++ List.replicate (1 - (lg_sl ([.ref (h 0)])).length) Slot.unset).toArray = ls at hl ⊢
  have hl : lv_has ls 1 [(0, .ref (h 0))] := hl
  obtain ⟨H, hH⟩ : ∃ H, H = sx.heap := ⟨_, rfl⟩
  rw [← hH] at hP
  have hS : va_S A sx.heap H [] := by rw [hH]; exact hS
  suffices h9 : W pg l ev (yR 0 0) sx mm _ bl mt cd H [] 0 0 (yMQ bl G A _ _ _ _ sx) (F0 mm 0 ls []) by rw [hH] at h9; exact h9
  obtain ⟨locs, hlo⟩ : ∃ locs : List Loc, locs = [] := ⟨_, rfl⟩
  rw [← hlo] at hS ⊢
  refine lv_aload_n hx hb d_B_close_0 rfl (lv_at hl 0 rfl) ?_
  refine va_get (D := gD G) (ci := 0) (v := .int (nI t)) (C := "WordShapes$Brackets") (T := TB) (N := 3) hx hb hg iw_B hown hK hP 0 rfl rfl 2 (by decide) (hg _ tk_75) (fun _ h9 => h9) rfl d_B_close_1 ?_
  refine yn_if_le (a := t) (tgt := 17) hx hb d_B_close_4 (by decide) (by omega) (fun c4 => ?_) (fun c4 => ?_)
  · skip
    exact absurd c4 (by omega)
  · skip
    refine lv_aload_n hx hb d_B_close_7 rfl (lv_at hl 0 rfl) ?_
    refine lv_dup hx hb d_B_close_8 rfl ?_
    refine va_get (D := gD G) (ci := 0) (v := .int (nI t)) (C := "WordShapes$Brackets") (T := TB) (N := 3) hx hb hg iw_B hown hK hP 0 rfl rfl 2 (by decide) (hg _ tk_75) (fun _ h9 => h9) rfl d_B_close_9 ?_
    refine lv_iconst (v := nI 1) hx hb d_B_close_12 (by decide) ?_
    refine lv_isub hx hb d_B_close_13 ?_
    refine y_eqi (pk_sub (by omega)) ?_
    refine va_put (D := gD G) (ci := 0) (v := .int (nI (t - 1))) (ty := .int) (C := "WordShapes$Brackets") (T := TB) (N := 3) hx hb hg iw_B ft_B fo_B nm_B hown hK hP hD hS 0 rfl rfl 2 (by decide) (hg _ tk_75) (fun _ h9 => h9) rfl (by decide +kernel) (rfl) (rfl) (Nat.le_of_ble_eq_true rfl) d_B_close_14 (fun H locs hP hD hS => ?_)
    have hP : va_P (gD G) vwC (wB G h (t - 1) f g) H := hP
    have hD : va_D A (wB G h (t - 1) f g) := hD
    exact yr_v (ws := wB G h (t - 1) f g) hx hb hrt hlocks (⟨rfl, rfl⟩) rfl hK hP hD hS d_B_close_17
set_option maxHeartbeats 4000000 in
set_option maxRecDepth 100000 in
theorem c_B_kind (l : Launch) (G : gl) (h : Nat → Nat) (t : Nat) (f : Nat → Int32) (g : Nat → Int32)  (hbt : t < 54) : YC l G y_B_kind k_B_kind 1 (Option.some FieldType.int) 0 0 [.ref (h 0)] (wB G h t f g) (fun v w => v = some (.int (f t)) ∧ w = wB G h t f g) (fun _ _ => False) := by
  refine yc_of (by decide) ?_
  intro pg ev sx mm bl mt cd A C0 hP hD
  obtain ⟨hx, hb, hrt, hml, hown, hg, hlocks, hxt, hE, hK, hA, hmn⟩ := C0
  have hS : va_S A sx.heap sx.heap [] := va_S.rf
  have hl := lv_entry ([.ref (h 0)]) (n := 1) (Nat.le_of_ble_eq_true rfl)
  rw [lg_entry_eq]
  generalize (lg_sl ([.ref (h 0)]) ++ List.replicate (1 - (lg_sl ([.ref (h 0)])).length) Slot.unset).toArray = ls at hl ⊢
  have hl : lv_has ls 1 [(0, .ref (h 0))] := hl
  obtain ⟨H, hH⟩ : ∃ H, H = sx.heap := ⟨_, rfl⟩
  rw [← hH] at hP
  have hS : va_S A sx.heap H [] := by rw [hH]; exact hS
  suffices h9 : W pg l ev (yR 0 0) sx mm _ bl mt cd H [] 0 0 (yMQ bl G A _ _ _ _ sx) (F0 mm 0 ls []) by rw [hH] at h9; exact h9
  obtain ⟨locs, hlo⟩ : ∃ locs : List Loc, locs = [] := ⟨_, rfl⟩
  rw [← hlo] at hS ⊢
  refine lv_aload_n hx hb d_B_kind_0 rfl (lv_at hl 0 rfl) ?_
  refine va_get (D := gD G) (ci := 0) (v := .ref (h 1)) (C := "WordShapes$Brackets") (T := TB) (N := 3) hx hb hg iw_B hown hK hP 0 rfl rfl 0 (by decide) (hg _ tk_73) (fun _ h9 => h9) rfl d_B_kind_1 ?_
  refine lv_aload_n hx hb d_B_kind_4 rfl (lv_at hl 0 rfl) ?_
  refine va_get (D := gD G) (ci := 0) (v := .int (nI t)) (C := "WordShapes$Brackets") (T := TB) (N := 3) hx hb hg iw_B hown hK hP 0 rfl rfl 2 (by decide) (hg _ tk_75) (fun _ h9 => h9) rfl d_B_kind_5 ?_
  refine yn_iald hx hb hK hP 1 0 rfl rfl (j := t) (x := f t) (rfl) (by omega) (by omega) d_B_kind_8 ?_
  exact yr_i (ws := wB G h t f g) hx hb hrt hlocks (⟨rfl, rfl⟩) rfl hK hP hD hS d_B_kind_9
set_option maxHeartbeats 4000000 in
set_option maxRecDepth 100000 in
theorem c_B_number (l : Launch) (G : gl) (h : Nat → Nat) (t : Nat) (f : Nat → Int32) (g : Nat → Int32)  (hbt : t < 54) : YC l G y_B_number k_B_number 1 (Option.some FieldType.int) 0 0 [.ref (h 0)] (wB G h t f g) (fun v w => v = some (.int (g t)) ∧ w = wB G h t f g) (fun _ _ => False) := by
  refine yc_of (by decide) ?_
  intro pg ev sx mm bl mt cd A C0 hP hD
  obtain ⟨hx, hb, hrt, hml, hown, hg, hlocks, hxt, hE, hK, hA, hmn⟩ := C0
  have hS : va_S A sx.heap sx.heap [] := va_S.rf
  have hl := lv_entry ([.ref (h 0)]) (n := 1) (Nat.le_of_ble_eq_true rfl)
  rw [lg_entry_eq]
  generalize (lg_sl ([.ref (h 0)]) ++ List.replicate (1 - (lg_sl ([.ref (h 0)])).length) Slot.unset).toArray = ls at hl ⊢
  have hl : lv_has ls 1 [(0, .ref (h 0))] := hl
  obtain ⟨H, hH⟩ : ∃ H, H = sx.heap := ⟨_, rfl⟩
  rw [← hH] at hP
  have hS : va_S A sx.heap H [] := by rw [hH]; exact hS
  suffices h9 : W pg l ev (yR 0 0) sx mm _ bl mt cd H [] 0 0 (yMQ bl G A _ _ _ _ sx) (F0 mm 0 ls []) by rw [hH] at h9; exact h9
  obtain ⟨locs, hlo⟩ : ∃ locs : List Loc, locs = [] := ⟨_, rfl⟩
  rw [← hlo] at hS ⊢
  refine lv_aload_n hx hb d_B_number_0 rfl (lv_at hl 0 rfl) ?_
  refine va_get (D := gD G) (ci := 0) (v := .ref (h 2)) (C := "WordShapes$Brackets") (T := TB) (N := 3) hx hb hg iw_B hown hK hP 0 rfl rfl 1 (by decide) (hg _ tk_74) (fun _ h9 => h9) rfl d_B_number_1 ?_
  refine lv_aload_n hx hb d_B_number_4 rfl (lv_at hl 0 rfl) ?_
  refine va_get (D := gD G) (ci := 0) (v := .int (nI t)) (C := "WordShapes$Brackets") (T := TB) (N := 3) hx hb hg iw_B hown hK hP 0 rfl rfl 2 (by decide) (hg _ tk_75) (fun _ h9 => h9) rfl d_B_number_5 ?_
  refine yn_iald hx hb hK hP 2 0 rfl rfl (j := t) (x := g t) (rfl) (by omega) (by omega) d_B_number_8 ?_
  exact yr_i (ws := wB G h t f g) hx hb hrt hlocks (⟨rfl, rfl⟩) rfl hK hP hD hS d_B_number_9
set_option maxHeartbeats 4000000 in
set_option maxRecDepth 100000 in
theorem c_B_lessOne (l : Launch) (G : gl) (h : Nat → Nat) (t : Nat) (f : Nat → Int32) (g : Nat → Int32)  (hbt : t < 54) : YC l G y_B_lessOne k_B_lessOne 1 (Option.none : Option FieldType) 0 0 [.ref (h 0)] (wB G h t f g) (fun v w => v = none ∧ w = wB G h t f (upd g t (g t - 1))) (fun _ _ => False) := by
  refine yc_of (by decide) ?_
  intro pg ev sx mm bl mt cd A C0 hP hD
  obtain ⟨hx, hb, hrt, hml, hown, hg, hlocks, hxt, hE, hK, hA, hmn⟩ := C0
  have hS : va_S A sx.heap sx.heap [] := va_S.rf
  have hl := lv_entry ([.ref (h 0)]) (n := 1) (Nat.le_of_ble_eq_true rfl)
  rw [lg_entry_eq]
  generalize (lg_sl ([.ref (h 0)]) ++ List.replicate (1 - (lg_sl ([.ref (h 0)])).length) Slot.unset).toArray = ls at hl ⊢
  have hl : lv_has ls 1 [(0, .ref (h 0))] := hl
  obtain ⟨H, hH⟩ : ∃ H, H = sx.heap := ⟨_, rfl⟩
  rw [← hH] at hP
  have hS : va_S A sx.heap H [] := by rw [hH]; exact hS
  suffices h9 : W pg l ev (yR 0 0) sx mm _ bl mt cd H [] 0 0 (yMQ bl G A _ _ _ _ sx) (F0 mm 0 ls []) by rw [hH] at h9; exact h9
  obtain ⟨locs, hlo⟩ : ∃ locs : List Loc, locs = [] := ⟨_, rfl⟩
  rw [← hlo] at hS ⊢
  refine lv_aload_n hx hb d_B_lessOne_0 rfl (lv_at hl 0 rfl) ?_
  refine va_get (D := gD G) (ci := 0) (v := .ref (h 2)) (C := "WordShapes$Brackets") (T := TB) (N := 3) hx hb hg iw_B hown hK hP 0 rfl rfl 1 (by decide) (hg _ tk_74) (fun _ h9 => h9) rfl d_B_lessOne_1 ?_
  refine lv_aload_n hx hb d_B_lessOne_4 rfl (lv_at hl 0 rfl) ?_
  refine va_get (D := gD G) (ci := 0) (v := .int (nI t)) (C := "WordShapes$Brackets") (T := TB) (N := 3) hx hb hg iw_B hown hK hP 0 rfl rfl 2 (by decide) (hg _ tk_75) (fun _ h9 => h9) rfl d_B_lessOne_5 ?_
  refine lv_dup2_11 hx hb d_B_lessOne_8 rfl rfl ?_
  refine yn_iald hx hb hK hP 2 0 rfl rfl (j := t) (x := g t) (rfl) (by omega) (by omega) d_B_lessOne_9 ?_
  refine lv_iconst (v := nI 1) hx hb d_B_lessOne_10 (by decide) ?_
  refine lv_isub hx hb d_B_lessOne_11 ?_
  refine yn_iast hx hb hK hP hD hS 2 0 rfl rfl (j := t) (x := (g t) - (nI 1)) (f1 := upd g t ((g t) - (nI 1))) (rfl) (by omega) (by omega) d_B_lessOne_12 (fun H locs hP hD hS => ?_)
  have hP : va_P (gD G) vwC (wB G h t f (upd g t ((g t) - (nI 1)))) H := hP
  have hD : va_D A (wB G h t f (upd g t ((g t) - (nI 1)))) := hD
  exact yr_v (ws := wB G h t f (upd g t ((g t) - (nI 1)))) hx hb hrt hlocks (⟨rfl, rfl⟩) rfl hK hP hD hS d_B_lessOne_13
