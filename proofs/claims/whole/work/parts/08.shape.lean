def bmp (f : Nat → Int32) (k : Nat) (i : Int32) : Nat → Int32 := if i < 0 then f else if nI k ≤ i then f else upd f i.toNatClampNeg (f i.toNatClampNeg + nI 1)
theorem bmp_neg {f : Nat → Int32} {k : Nat} {i : Int32} (h : i < 0) : bmp f k i = f := if_pos h
theorem bmp_ge {f : Nat → Int32} {k : Nat} {i : Int32} (h : nI k ≤ i) : bmp f k i = f := by
  unfold bmp
  by_cases q : i < 0
  · rw [if_pos q]
  · rw [if_neg q, if_pos h]
theorem bmp_nI {f : Nat → Int32} {k j : Nat} (h : j < k) (hk : k < 2 ^ 31) : bmp f k (nI j) = upd f j (f j + nI 1) := by
  unfold bmp
  rw [if_neg (nI_pos (by omega)), if_neg (nI_ge h hk), nI_clamp (by omega)]
/-- the first n places from another row -/
def tkF (f f2 : Nat → Int32) (n : Nat) : Nat → Int32 := fun j => if j < n then f2 j else f j
theorem tkF_0 (f f2 : Nat → Int32) : tkF f f2 0 = f := by funext j; simp [tkF]
theorem tkF_s (f f2 : Nat → Int32) (n : Nat) : upd (tkF f f2 n) n (f2 n) = tkF f f2 (n + 1) := by
  funext j
  by_cases h : j = n
  · subst h; simp [upd, tkF]
  · simp only [upd, tkF, if_neg h]
    by_cases h2 : j < n
    · rw [if_pos h2, if_pos (by omega)]
    · rw [if_neg h2, if_neg (by omega)]
theorem tkF_s2 (f f2 : Nat → Int32) (n : Nat) : upd (upd (tkF f f2 (2 * n)) (2 * n) (f2 (2 * n))) (2 * n + 1) (f2 (2 * n + 1)) = tkF f f2 (2 * (n + 1)) := by
  rw [tkF_s, tkF_s]; rfl
set_option maxHeartbeats 4000000 in
set_option maxRecDepth 100000 in
theorem c_S_addOneAt (l : Launch) (G : gl) (h : Nat → Nat) (np : Nat) (no : Nat) (k : Nat) (c : Nat) (f : Nat → Int32) (o : Nat → Int32) (i : Int32) (hk : k ≤ np) (hn : np < 2 ^ 31) : YC l G y_S_addOneAt k_S_addOneAt 2 (Option.none : Option FieldType) 0 0 [.ref (h 0), .int i] (wS G h np no k c f o) (fun v w => v = none ∧ w = wS G h np no k c (bmp f k i) o) (fun _ _ => False) := by
  refine yc_of (by decide) ?_
  intro pg ev sx mm bl mt cd A C0 hP hD
  obtain ⟨hx, hb, hrt, hml, hown, hg, hlocks, hxt, hE, hK, hA, hmn⟩ := C0
  have hS : va_S A sx.heap sx.heap [] := va_S.rf
  have hl := lv_entry ([.ref (h 0), .int i]) (n := 2) (Nat.le_of_ble_eq_true rfl)
  rw [lg_entry_eq]
  generalize (lg_sl ([.ref (h 0), .int i]) ++ List.replicate (2 - (lg_sl ([.ref (h 0), .int i])).length) Slot.unset).toArray = ls at hl ⊢
  have hl : lv_has ls 2 [(0, .ref (h 0)), (1, .int i)] := hl
  obtain ⟨H, hH⟩ : ∃ H, H = sx.heap := ⟨_, rfl⟩
  rw [← hH] at hP
  have hS : va_S A sx.heap H [] := by rw [hH]; exact hS
  suffices h9 : W pg l ev (yR 0 0) sx mm _ bl mt cd H [] 0 0 (yMQ bl G A _ _ _ _ sx) (F0 mm 0 ls []) by rw [hH] at h9; exact h9
  obtain ⟨locs, hlo⟩ : ∃ locs : List Loc, locs = [] := ⟨_, rfl⟩
  rw [← hlo] at hS ⊢
  refine lv_iload_n hx hb d_S_addOneAt_0 rfl (lv_at hl 1 rfl) ?_
  refine lv_if_lt (tgt := 22) hx hb d_S_addOneAt_1 (by decide) (fun c1 => ?_) (fun c1 => ?_)
  · skip
    exact yr_v (ws := wS G h np no k c f o) hx hb hrt hlocks (⟨rfl, by first | rw [bmp_neg c1] | rw [bmp_ge c9] | rw [bmp_nI hj (by omega)]⟩) rfl hK hP hD hS d_S_addOneAt_22
  · skip
    refine lv_iload_n hx hb d_S_addOneAt_4 rfl (lv_at hl 1 rfl) ?_
    refine lv_aload_n hx hb d_S_addOneAt_5 rfl (lv_at hl 0 rfl) ?_
    refine va_get (D := gD G) (ci := 2) (v := .int (nI k)) (C := "WordShapes$Shape") (T := TS) (N := 4) hx hb hg iw_S hown hK hP 0 rfl rfl 2 (by decide) (hg _ tk_43) (fun _ h9 => h9) rfl d_S_addOneAt_6 ?_
    refine lv_icmp_ge (tgt := 22) hx hb d_S_addOneAt_9 (by decide) (fun c9 => ?_) (fun c9 => ?_)
    · skip
      exact yr_v (ws := wS G h np no k c f o) hx hb hrt hlocks (⟨rfl, by first | rw [bmp_neg c1] | rw [bmp_ge c9] | rw [bmp_nI hj (by omega)]⟩) rfl hK hP hD hS d_S_addOneAt_22
    · skip
      obtain ⟨j, hj, rfl⟩ : ∃ j : Nat, j < k ∧ i = nI j := by rcases pk_ix i (n := k) (by omega) with q9 | q9 | q9; exact absurd q9 c1; exact absurd q9 c9; exact q9
      refine lv_aload_n hx hb d_S_addOneAt_12 rfl (lv_at hl 0 rfl) ?_
      refine va_get (D := gD G) (ci := 2) (v := .ref (h 1)) (C := "WordShapes$Shape") (T := TS) (N := 4) hx hb hg iw_S hown hK hP 0 rfl rfl 0 (by decide) (hg _ tk_41) (fun _ h9 => h9) rfl d_S_addOneAt_13 ?_
      refine lv_iload_n hx hb d_S_addOneAt_16 rfl (lv_at hl 1 rfl) ?_
      refine lv_dup2_11 hx hb d_S_addOneAt_17 rfl rfl ?_
      refine yn_iald hx hb hK hP 1 0 rfl rfl (j := j) (x := f j) (rfl) (by omega) (by omega) d_S_addOneAt_18 ?_
      refine lv_iconst (v := nI 1) hx hb d_S_addOneAt_19 (by decide) ?_
      refine lv_iadd hx hb d_S_addOneAt_20 ?_
      refine yn_iast hx hb hK hP hD hS 1 0 rfl rfl (j := j) (x := (f j) + (nI 1)) (f1 := upd f j ((f j) + (nI 1))) (rfl) (by omega) (by omega) d_S_addOneAt_21 (fun H locs hP hD hS => ?_)
      have hP : va_P (gD G) vwC (wS G h np no k c (upd f j ((f j) + (nI 1))) o) H := hP
      have hD : va_D A (wS G h np no k c (upd f j ((f j) + (nI 1))) o) := hD
      exact yr_v (ws := wS G h np no k c (upd f j ((f j) + (nI 1))) o) hx hb hrt hlocks (⟨rfl, by first | rw [bmp_neg c1] | rw [bmp_ge c9] | rw [bmp_nI hj (by omega)]⟩) rfl hK hP hD hS d_S_addOneAt_22
set_option maxHeartbeats 4000000 in
set_option maxRecDepth 100000 in
theorem c_S_clear (l : Launch) (G : gl) (h : Nat → Nat) (np : Nat) (no : Nat) (k : Nat) (c : Nat) (f : Nat → Int32) (o : Nat → Int32)   : YC l G y_S_clear k_S_clear 1 (Option.none : Option FieldType) 0 0 [.ref (h 0)] (wS G h np no k c f o) (fun v w => v = none ∧ w = wS G h np no 0 0 f o) (fun _ _ => False) := by
  refine yc_of (by decide) ?_
  intro pg ev sx mm bl mt cd A C0 hP hD
  obtain ⟨hx, hb, hrt, hml, hown, hg, hlocks, hxt, hE, hK, hA, hmn⟩ := C0
  have hS : va_S A sx.heap sx.heap [] := va_S.rf
  have hl := lv_entry ([.ref (h 0)]) (n := 1) (Nat.le_of_ble_eq_true rfl)
  rw [lg_entry_eq]
  generalize (lg_sl ([.ref (h 0)]) ++ List.replicate (1 - (lg_sl ([.ref (h 0)])).length) Slot.unset).toArray = ls at hl ⊢
  have hl : lv_has ls 1 [(0, .ref (h 0))] := hl
  obtain ⟨H, hH⟩ : ∃ H, H = sx.heap := ⟨_, rfl⟩
  rw [← hH] at hP
  have hS : va_S A sx.heap H [] := by rw [hH]; exact hS
  suffices h9 : W pg l ev (yR 0 0) sx mm _ bl mt cd H [] 0 0 (yMQ bl G A _ _ _ _ sx) (F0 mm 0 ls []) by rw [hH] at h9; exact h9
  obtain ⟨locs, hlo⟩ : ∃ locs : List Loc, locs = [] := ⟨_, rfl⟩
  rw [← hlo] at hS ⊢
  refine lv_aload_n hx hb d_S_clear_0 rfl (lv_at hl 0 rfl) ?_
  refine lv_iconst (v := nI 0) hx hb d_S_clear_1 (by decide) ?_
  refine va_put (D := gD G) (ci := 2) (v := .int (nI 0)) (ty := .int) (C := "WordShapes$Shape") (T := TS) (N := 4) hx hb hg iw_S ft_S fo_S nm_S hown hK hP hD hS 0 rfl rfl 2 (by decide) (hg _ tk_43) (fun _ h9 => h9) rfl (by decide +kernel) (rfl) (rfl) (Nat.le_of_ble_eq_true rfl) d_S_clear_2 (fun H locs hP hD hS => ?_)
  have hP : va_P (gD G) vwC (wS G h np no 0 c f o) H := hP
  have hD : va_D A (wS G h np no 0 c f o) := hD
  refine lv_aload_n hx hb d_S_clear_5 rfl (lv_at hl 0 rfl) ?_
  refine lv_iconst (v := nI 0) hx hb d_S_clear_6 (by decide) ?_
  refine va_put (D := gD G) (ci := 2) (v := .int (nI 0)) (ty := .int) (C := "WordShapes$Shape") (T := TS) (N := 4) hx hb hg iw_S ft_S fo_S nm_S hown hK hP hD hS 0 rfl rfl 3 (by decide) (hg _ tk_47) (fun _ h9 => h9) rfl (by decide +kernel) (rfl) (rfl) (Nat.le_of_ble_eq_true rfl) d_S_clear_7 (fun H locs hP hD hS => ?_)
  have hP : va_P (gD G) vwC (wS G h np no 0 0 f o) H := hP
  have hD : va_D A (wS G h np no 0 0 f o) := hD
  exact yr_v (ws := wS G h np no 0 0 f o) hx hb hrt hlocks (⟨rfl, rfl⟩) rfl hK hP hD hS d_S_clear_10
set_option maxHeartbeats 4000000 in
set_option maxRecDepth 100000 in
theorem c_S_isNone (l : Launch) (G : gl) (h : Nat → Nat) (np : Nat) (no : Nat) (k : Nat) (c : Nat) (f : Nat → Int32) (o : Nat → Int32)  (hk : k < 2 ^ 31) : YC l G y_S_isNone k_S_isNone 1 (Option.some FieldType.boolean) 0 0 [.ref (h 0)] (wS G h np no k c f o) (fun v w => v = some (.int (bz (decide (k = 0)))) ∧ w = wS G h np no k c f o) (fun _ _ => False) := by
  refine yc_of (by decide) ?_
  intro pg ev sx mm bl mt cd A C0 hP hD
  obtain ⟨hx, hb, hrt, hml, hown, hg, hlocks, hxt, hE, hK, hA, hmn⟩ := C0
  have hS : va_S A sx.heap sx.heap [] := va_S.rf
  have hl := lv_entry ([.ref (h 0)]) (n := 1) (Nat.le_of_ble_eq_true rfl)
  rw [lg_entry_eq]
  generalize (lg_sl ([.ref (h 0)]) ++ List.replicate (1 - (lg_sl ([.ref (h 0)])).length) Slot.unset).toArray = ls at hl ⊢
  have hl : lv_has ls 1 [(0, .ref (h 0))] := hl
  obtain ⟨H, hH⟩ : ∃ H, H = sx.heap := ⟨_, rfl⟩
  rw [← hH] at hP
  have hS : va_S A sx.heap H [] := by rw [hH]; exact hS
  suffices h9 : W pg l ev (yR 0 0) sx mm _ bl mt cd H [] 0 0 (yMQ bl G A _ _ _ _ sx) (F0 mm 0 ls []) by rw [hH] at h9; exact h9
  obtain ⟨locs, hlo⟩ : ∃ locs : List Loc, locs = [] := ⟨_, rfl⟩
  rw [← hlo] at hS ⊢
  refine lv_aload_n hx hb d_S_isNone_0 rfl (lv_at hl 0 rfl) ?_
  refine va_get (D := gD G) (ci := 2) (v := .int (nI k)) (C := "WordShapes$Shape") (T := TS) (N := 4) hx hb hg iw_S hown hK hP 0 rfl rfl 2 (by decide) (hg _ tk_43) (fun _ h9 => h9) rfl d_S_isNone_1 ?_
  refine yn_if_ne (a := k) (tgt := 11) hx hb d_S_isNone_4 (by decide) (by omega) (fun c4 => ?_) (fun c4 => ?_)
  · skip
    refine lv_iconst (v := nI 0) hx hb d_S_isNone_11 (by decide) ?_
    exact yr_z (ws := wS G h np no k c f o) hx hb hrt (rfl) hlocks (⟨congrArg (fun z => some (Value.int z)) (bz_f (by omega)), rfl⟩) rfl hK hP hD hS d_S_isNone_12
  · skip
    refine lv_iconst (v := nI 1) hx hb d_S_isNone_7 (by decide) ?_
    refine lv_goto (tgt := 12) hx hb d_S_isNone_8 (by decide) ?_
    exact yr_z (ws := wS G h np no k c f o) hx hb hrt (rfl) hlocks (⟨congrArg (fun z => some (Value.int z)) (bz_t (by omega)), rfl⟩) rfl hK hP hD hS d_S_isNone_12
set_option maxHeartbeats 4000000 in
set_option maxRecDepth 100000 in
theorem c_S_hasRoomFor (l : Launch) (G : gl) (h : Nat → Nat) (np : Nat) (no : Nat) (k : Nat) (c : Nat) (f : Nat → Int32) (o : Nat → Int32) (x : Nat) (hx9 : x ≤ np) (hk : k < 2 ^ 31) (hn : np < 2 ^ 31) : YC l G y_S_hasRoomFor k_S_hasRoomFor 2 (Option.some FieldType.boolean) 0 0 [.ref (h 0), .int (nI x)] (wS G h np no k c f o) (fun v w => v = some (.int (bz (decide (k ≤ np - x)))) ∧ w = wS G h np no k c f o) (fun _ _ => False) := by
  refine yc_of (by decide) ?_
  intro pg ev sx mm bl mt cd A C0 hP hD
  obtain ⟨hx, hb, hrt, hml, hown, hg, hlocks, hxt, hE, hK, hA, hmn⟩ := C0
  have hS : va_S A sx.heap sx.heap [] := va_S.rf
  have hl := lv_entry ([.ref (h 0), .int (nI x)]) (n := 2) (Nat.le_of_ble_eq_true rfl)
  rw [lg_entry_eq]
  generalize (lg_sl ([.ref (h 0), .int (nI x)]) ++ List.replicate (2 - (lg_sl ([.ref (h 0), .int (nI x)])).length) Slot.unset).toArray = ls at hl ⊢
  have hl : lv_has ls 2 [(0, .ref (h 0)), (1, .int (nI x))] := hl
  obtain ⟨H, hH⟩ : ∃ H, H = sx.heap := ⟨_, rfl⟩
  rw [← hH] at hP
  have hS : va_S A sx.heap H [] := by rw [hH]; exact hS
  suffices h9 : W pg l ev (yR 0 0) sx mm _ bl mt cd H [] 0 0 (yMQ bl G A _ _ _ _ sx) (F0 mm 0 ls []) by rw [hH] at h9; exact h9
  obtain ⟨locs, hlo⟩ : ∃ locs : List Loc, locs = [] := ⟨_, rfl⟩
  rw [← hlo] at hS ⊢
  refine lv_aload_n hx hb d_S_hasRoomFor_0 rfl (lv_at hl 0 rfl) ?_
  refine va_get (D := gD G) (ci := 2) (v := .int (nI k)) (C := "WordShapes$Shape") (T := TS) (N := 4) hx hb hg iw_S hown hK hP 0 rfl rfl 2 (by decide) (hg _ tk_43) (fun _ h9 => h9) rfl d_S_hasRoomFor_1 ?_
  refine lv_aload_n hx hb d_S_hasRoomFor_4 rfl (lv_at hl 0 rfl) ?_
  refine va_get (D := gD G) (ci := 2) (v := .ref (h 1)) (C := "WordShapes$Shape") (T := TS) (N := 4) hx hb hg iw_S hown hK hP 0 rfl rfl 0 (by decide) (hg _ tk_41) (fun _ h9 => h9) rfl d_S_hasRoomFor_5 ?_
  refine va_alen hx hb hK hP 1 0 rfl rfl (v := nI np) rfl d_S_hasRoomFor_8 ?_
  refine lv_iload_n hx hb d_S_hasRoomFor_9 rfl (lv_at hl 1 rfl) ?_
  refine lv_isub hx hb d_S_hasRoomFor_10 ?_
  refine y_eqi (pk_sub (by omega)) ?_
  refine yn_icmp_gt (a := k) (b := np - x) (tgt := 18) hx hb d_S_hasRoomFor_11 (by decide) (by omega) (by omega) (fun c11 => ?_) (fun c11 => ?_)
  · skip
    refine lv_iconst (v := nI 0) hx hb d_S_hasRoomFor_18 (by decide) ?_
    exact yr_z (ws := wS G h np no k c f o) hx hb hrt (rfl) hlocks (⟨congrArg (fun z => some (Value.int z)) (bz_f (by omega)), rfl⟩) rfl hK hP hD hS d_S_hasRoomFor_19
  · skip
    refine lv_iconst (v := nI 1) hx hb d_S_hasRoomFor_14 (by decide) ?_
    refine lv_goto (tgt := 19) hx hb d_S_hasRoomFor_15 (by decide) ?_
    exact yr_z (ws := wS G h np no k c f o) hx hb hrt (rfl) hlocks (⟨congrArg (fun z => some (Value.int z)) (bz_t (by omega)), rfl⟩) rfl hK hP hD hS d_S_hasRoomFor_19
set_option maxHeartbeats 4000000 in
set_option maxRecDepth 100000 in
theorem c_S_hasRoomForPoint (l : Launch) (G : gl) (h : Nat → Nat) (np : Nat) (no : Nat) (k : Nat) (c : Nat) (f : Nat → Int32) (o : Nat → Int32)  (hc : c < 2 ^ 20) (hn : no < 2 ^ 31) : YC l G y_S_hasRoomForPoint k_S_hasRoomForPoint 1 (Option.some FieldType.boolean) 0 0 [.ref (h 0)] (wS G h np no k c f o) (fun v w => v = some (.int (bz (decide (2 * c + 1 < no)))) ∧ w = wS G h np no k c f o) (fun _ _ => False) := by
  refine yc_of (by decide) ?_
  intro pg ev sx mm bl mt cd A C0 hP hD
  obtain ⟨hx, hb, hrt, hml, hown, hg, hlocks, hxt, hE, hK, hA, hmn⟩ := C0
  have hS : va_S A sx.heap sx.heap [] := va_S.rf
  have hl := lv_entry ([.ref (h 0)]) (n := 1) (Nat.le_of_ble_eq_true rfl)
  rw [lg_entry_eq]
  generalize (lg_sl ([.ref (h 0)]) ++ List.replicate (1 - (lg_sl ([.ref (h 0)])).length) Slot.unset).toArray = ls at hl ⊢
  have hl : lv_has ls 1 [(0, .ref (h 0))] := hl
  obtain ⟨H, hH⟩ : ∃ H, H = sx.heap := ⟨_, rfl⟩
  rw [← hH] at hP
  have hS : va_S A sx.heap H [] := by rw [hH]; exact hS
  suffices h9 : W pg l ev (yR 0 0) sx mm _ bl mt cd H [] 0 0 (yMQ bl G A _ _ _ _ sx) (F0 mm 0 ls []) by rw [hH] at h9; exact h9
  obtain ⟨locs, hlo⟩ : ∃ locs : List Loc, locs = [] := ⟨_, rfl⟩
  rw [← hlo] at hS ⊢
  refine lv_iconst (v := nI 2) hx hb d_S_hasRoomForPoint_0 (by decide) ?_
  refine lv_aload_n hx hb d_S_hasRoomForPoint_1 rfl (lv_at hl 0 rfl) ?_
  refine va_get (D := gD G) (ci := 2) (v := .int (nI c)) (C := "WordShapes$Shape") (T := TS) (N := 4) hx hb hg iw_S hown hK hP 0 rfl rfl 3 (by decide) (hg _ tk_47) (fun _ h9 => h9) rfl d_S_hasRoomForPoint_2 ?_
  refine lv_imul hx hb d_S_hasRoomForPoint_5 ?_
  refine y_eqi (pk_mul _ _) ?_
  refine lv_iconst (v := nI 1) hx hb d_S_hasRoomForPoint_6 (by decide) ?_
  refine lv_iadd hx hb d_S_hasRoomForPoint_7 ?_
  refine y_eqi (nI_add _ _) ?_
  refine lv_aload_n hx hb d_S_hasRoomForPoint_8 rfl (lv_at hl 0 rfl) ?_
  refine va_get (D := gD G) (ci := 2) (v := .ref (h 2)) (C := "WordShapes$Shape") (T := TS) (N := 4) hx hb hg iw_S hown hK hP 0 rfl rfl 1 (by decide) (hg _ tk_42) (fun _ h9 => h9) rfl d_S_hasRoomForPoint_9 ?_
  refine va_alen hx hb hK hP 2 0 rfl rfl (v := nI no) rfl d_S_hasRoomForPoint_12 ?_
  refine yn_icmp_ge (a := 2 * c + 1) (b := no) (tgt := 20) hx hb d_S_hasRoomForPoint_13 (by decide) (by omega) (by omega) (fun c13 => ?_) (fun c13 => ?_)
  · skip
    refine lv_iconst (v := nI 0) hx hb d_S_hasRoomForPoint_20 (by decide) ?_
    exact yr_z (ws := wS G h np no k c f o) hx hb hrt (rfl) hlocks (⟨congrArg (fun z => some (Value.int z)) (bz_f (by omega)), rfl⟩) rfl hK hP hD hS d_S_hasRoomForPoint_21
  · skip
    refine lv_iconst (v := nI 1) hx hb d_S_hasRoomForPoint_16 (by decide) ?_
    refine lv_goto (tgt := 21) hx hb d_S_hasRoomForPoint_17 (by decide) ?_
    exact yr_z (ws := wS G h np no k c f o) hx hb hrt (rfl) hlocks (⟨congrArg (fun z => some (Value.int z)) (bz_t (by omega)), rfl⟩) rfl hK hP hD hS d_S_hasRoomForPoint_21
set_option maxHeartbeats 4000000 in
set_option maxRecDepth 100000 in
theorem c_S_addNumber (l : Launch) (G : gl) (h : Nat → Nat) (np : Nat) (no : Nat) (k : Nat) (c : Nat) (f : Nat → Int32) (o : Nat → Int32) (x : Int32) (hk : k < np) (hn : np < 2 ^ 31) : YC l G y_S_addNumber k_S_addNumber 2 (Option.none : Option FieldType) 0 0 [.ref (h 0), .int x] (wS G h np no k c f o) (fun v w => v = none ∧ w = wS G h np no (k + 1) c (upd f k x) o) (fun _ _ => False) := by
  refine yc_of (by decide) ?_
  intro pg ev sx mm bl mt cd A C0 hP hD
  obtain ⟨hx, hb, hrt, hml, hown, hg, hlocks, hxt, hE, hK, hA, hmn⟩ := C0
  have hS : va_S A sx.heap sx.heap [] := va_S.rf
  have hl := lv_entry ([.ref (h 0), .int x]) (n := 2) (Nat.le_of_ble_eq_true rfl)
  rw [lg_entry_eq]
  generalize (lg_sl ([.ref (h 0), .int x]) ++ List.replicate (2 - (lg_sl ([.ref (h 0), .int x])).length) Slot.unset).toArray = ls at hl ⊢
  have hl : lv_has ls 2 [(0, .ref (h 0)), (1, .int x)] := hl
  obtain ⟨H, hH⟩ : ∃ H, H = sx.heap := ⟨_, rfl⟩
  rw [← hH] at hP
  have hS : va_S A sx.heap H [] := by rw [hH]; exact hS
  suffices h9 : W pg l ev (yR 0 0) sx mm _ bl mt cd H [] 0 0 (yMQ bl G A _ _ _ _ sx) (F0 mm 0 ls []) by rw [hH] at h9; exact h9
  obtain ⟨locs, hlo⟩ : ∃ locs : List Loc, locs = [] := ⟨_, rfl⟩
  rw [← hlo] at hS ⊢
  refine lv_aload_n hx hb d_S_addNumber_0 rfl (lv_at hl 0 rfl) ?_
  refine va_get (D := gD G) (ci := 2) (v := .int (nI k)) (C := "WordShapes$Shape") (T := TS) (N := 4) hx hb hg iw_S hown hK hP 0 rfl rfl 2 (by decide) (hg _ tk_43) (fun _ h9 => h9) rfl d_S_addNumber_1 ?_
  refine lv_aload_n hx hb d_S_addNumber_4 rfl (lv_at hl 0 rfl) ?_
  refine va_get (D := gD G) (ci := 2) (v := .ref (h 1)) (C := "WordShapes$Shape") (T := TS) (N := 4) hx hb hg iw_S hown hK hP 0 rfl rfl 0 (by decide) (hg _ tk_41) (fun _ h9 => h9) rfl d_S_addNumber_5 ?_
  refine va_alen hx hb hK hP 1 0 rfl rfl (v := nI np) rfl d_S_addNumber_8 ?_
  refine yn_icmp_ge (a := k) (b := np) (tgt := 32) hx hb d_S_addNumber_9 (by decide) (by omega) (by omega) (fun c9 => ?_) (fun c9 => ?_)
  · skip
    exact absurd c9 (by omega)
  · skip
    refine lv_aload_n hx hb d_S_addNumber_12 rfl (lv_at hl 0 rfl) ?_
    refine va_get (D := gD G) (ci := 2) (v := .ref (h 1)) (C := "WordShapes$Shape") (T := TS) (N := 4) hx hb hg iw_S hown hK hP 0 rfl rfl 0 (by decide) (hg _ tk_41) (fun _ h9 => h9) rfl d_S_addNumber_13 ?_
    refine lv_aload_n hx hb d_S_addNumber_16 rfl (lv_at hl 0 rfl) ?_
    refine va_get (D := gD G) (ci := 2) (v := .int (nI k)) (C := "WordShapes$Shape") (T := TS) (N := 4) hx hb hg iw_S hown hK hP 0 rfl rfl 2 (by decide) (hg _ tk_43) (fun _ h9 => h9) rfl d_S_addNumber_17 ?_
    refine lv_iload_n hx hb d_S_addNumber_20 rfl (lv_at hl 1 rfl) ?_
    refine yn_iast hx hb hK hP hD hS 1 0 rfl rfl (j := k) (x := x) (f1 := upd f k x) (rfl) (by omega) (by omega) d_S_addNumber_21 (fun H locs hP hD hS => ?_)
    have hP : va_P (gD G) vwC (wS G h np no k c (upd f k x) o) H := hP
    have hD : va_D A (wS G h np no k c (upd f k x) o) := hD
    refine lv_aload_n hx hb d_S_addNumber_22 rfl (lv_at hl 0 rfl) ?_
    refine lv_dup hx hb d_S_addNumber_23 rfl ?_
    refine va_get (D := gD G) (ci := 2) (v := .int (nI k)) (C := "WordShapes$Shape") (T := TS) (N := 4) hx hb hg iw_S hown hK hP 0 rfl rfl 2 (by decide) (hg _ tk_43) (fun _ h9 => h9) rfl d_S_addNumber_24 ?_
    refine lv_iconst (v := nI 1) hx hb d_S_addNumber_27 (by decide) ?_
    refine lv_iadd hx hb d_S_addNumber_28 ?_
    refine y_eqi (nI_add _ _) ?_
    refine va_put (D := gD G) (ci := 2) (v := .int (nI (k + 1))) (ty := .int) (C := "WordShapes$Shape") (T := TS) (N := 4) hx hb hg iw_S ft_S fo_S nm_S hown hK hP hD hS 0 rfl rfl 2 (by decide) (hg _ tk_43) (fun _ h9 => h9) rfl (by decide +kernel) (rfl) (rfl) (Nat.le_of_ble_eq_true rfl) d_S_addNumber_29 (fun H locs hP hD hS => ?_)
    have hP : va_P (gD G) vwC (wS G h np no (k + 1) c (upd f k x) o) H := hP
    have hD : va_D A (wS G h np no (k + 1) c (upd f k x) o) := hD
    exact yr_v (ws := wS G h np no (k + 1) c (upd f k x) o) hx hb hrt hlocks (⟨rfl, rfl⟩) rfl hK hP hD hS d_S_addNumber_32
set_option maxHeartbeats 4000000 in
set_option maxRecDepth 100000 in
theorem c_S_addPoint (l : Launch) (G : gl) (h : Nat → Nat) (np : Nat) (no : Nat) (k : Nat) (c : Nat) (f : Nat → Int32) (o : Nat → Int32) (x : Int32) (y : Int32) (hc : 2 * c + 1 < no) (hn : no < 2 ^ 20) : YC l G y_S_addPoint k_S_addPoint 3 (Option.none : Option FieldType) 1 20 [.ref (h 0), .int x, .int y] (wS G h np no k c f o) (fun v w => v = none ∧ w = wS G h np no k (c + 1) f (upd (upd o (2 * c) x) (2 * c + 1) y)) (fun _ _ => False) := by
  refine yc_of (by decide) ?_
  intro pg ev sx mm bl mt cd A C0 hP hD
  obtain ⟨hx, hb, hrt, hml, hown, hg, hlocks, hxt, hE, hK, hA, hmn⟩ := C0
  have hS : va_S A sx.heap sx.heap [] := va_S.rf
  have hl := lv_entry ([.ref (h 0), .int x, .int y]) (n := 3) (Nat.le_of_ble_eq_true rfl)
  rw [lg_entry_eq]
  generalize (lg_sl ([.ref (h 0), .int x, .int y]) ++ List.replicate (3 - (lg_sl ([.ref (h 0), .int x, .int y])).length) Slot.unset).toArray = ls at hl ⊢
  have hl : lv_has ls 3 [(0, .ref (h 0)), (1, .int x), (2, .int y)] := hl
  obtain ⟨H, hH⟩ : ∃ H, H = sx.heap := ⟨_, rfl⟩
  rw [← hH] at hP
  have hS : va_S A sx.heap H [] := by rw [hH]; exact hS
  suffices h9 : W pg l ev (yR 1 20) sx mm _ bl mt cd H [] 0 0 (yMQ bl G A _ _ _ _ sx) (F0 mm 0 ls []) by rw [hH] at h9; exact h9
  obtain ⟨locs, hlo⟩ : ∃ locs : List Loc, locs = [] := ⟨_, rfl⟩
  rw [← hlo] at hS ⊢
  refine lv_aload_n hx hb d_S_addPoint_0 rfl (lv_at hl 0 rfl) ?_
  refine y_call (y_runV (As := []) (rest := []) hx hb hml hown (c_S_hasRoomForPoint l G h np no k c f o  (by omega) (by omega)) (gV (n := 0) hg tk_517 tk_481 tk_482 tk_3 tk_483 (by decide +kernel) ⟨Nat.le_of_ble_eq_true rfl, Nat.le_of_ble_eq_true rfl⟩) (va_recv hK hP (ci := 2) (q0 := 0) rfl rfl) (y_pre hE hK hP hD hS hA [0, 1, 2] rfl rfl) rfl rfl hl.1 rfl (lv_room (Nat.le_of_ble_eq_true rfl)) d_S_addPoint_1 ⟨Nat.le_of_ble_eq_true rfl, Nat.le_of_ble_eq_true rfl⟩) hP hD hS hA [0, 1, 2] rfl (fun _ _ _ _ _ _ hp => False.elim hp) (fun v w H locs hp hlw hP hD hS => ?_)
  obtain ⟨rfl, rfl⟩ := hp
  have hP : va_P (gD G) vwC (wS G h np no k c f o) H := hP
  have hD : va_D A (wS G h np no k c f o) := hD
  refine W.eq (g2 := F0 mm 4 ls [.int (bz (decide (2 * c + 1 < no)))]) rfl ?_
  refine yz_if_eq (P := 2 * c + 1 < no) (tgt := 43) hx hb d_S_addPoint_4 (by decide) (fun c4 => ?_) (fun c4 => ?_)
  · skip
    exact absurd hc c4
  · skip
    refine lv_aload_n hx hb d_S_addPoint_7 rfl (lv_at hl 0 rfl) ?_
    refine va_get (D := gD G) (ci := 2) (v := .ref (h 2)) (C := "WordShapes$Shape") (T := TS) (N := 4) hx hb hg iw_S hown hK hP 0 rfl rfl 1 (by decide) (hg _ tk_42) (fun _ h9 => h9) rfl d_S_addPoint_8 ?_
    refine lv_iconst (v := nI 2) hx hb d_S_addPoint_11 (by decide) ?_
    refine lv_aload_n hx hb d_S_addPoint_12 rfl (lv_at hl 0 rfl) ?_
    refine va_get (D := gD G) (ci := 2) (v := .int (nI c)) (C := "WordShapes$Shape") (T := TS) (N := 4) hx hb hg iw_S hown hK hP 0 rfl rfl 3 (by decide) (hg _ tk_47) (fun _ h9 => h9) rfl d_S_addPoint_13 ?_
    refine lv_imul hx hb d_S_addPoint_16 ?_
    refine y_eqi (pk_mul _ _) ?_
    refine lv_iload_n hx hb d_S_addPoint_17 rfl (lv_at hl 1 rfl) ?_
    refine yn_iast hx hb hK hP hD hS 2 0 rfl rfl (j := 2 * c) (x := x) (f1 := upd o (2 * c) x) (rfl) (by omega) (by omega) d_S_addPoint_18 (fun H locs hP hD hS => ?_)
    have hP : va_P (gD G) vwC (wS G h np no k c f (upd o (2 * c) x)) H := hP
    have hD : va_D A (wS G h np no k c f (upd o (2 * c) x)) := hD
    refine lv_aload_n hx hb d_S_addPoint_19 rfl (lv_at hl 0 rfl) ?_
    refine va_get (D := gD G) (ci := 2) (v := .ref (h 2)) (C := "WordShapes$Shape") (T := TS) (N := 4) hx hb hg iw_S hown hK hP 0 rfl rfl 1 (by decide) (hg _ tk_42) (fun _ h9 => h9) rfl d_S_addPoint_20 ?_
    refine lv_iconst (v := nI 2) hx hb d_S_addPoint_23 (by decide) ?_
    refine lv_aload_n hx hb d_S_addPoint_24 rfl (lv_at hl 0 rfl) ?_
    refine va_get (D := gD G) (ci := 2) (v := .int (nI c)) (C := "WordShapes$Shape") (T := TS) (N := 4) hx hb hg iw_S hown hK hP 0 rfl rfl 3 (by decide) (hg _ tk_47) (fun _ h9 => h9) rfl d_S_addPoint_25 ?_
    refine lv_imul hx hb d_S_addPoint_28 ?_
    refine y_eqi (pk_mul _ _) ?_
    refine lv_iconst (v := nI 1) hx hb d_S_addPoint_29 (by decide) ?_
    refine lv_iadd hx hb d_S_addPoint_30 ?_
    refine y_eqi (nI_add _ _) ?_
    refine lv_iload_n hx hb d_S_addPoint_31 rfl (lv_at hl 2 rfl) ?_
    refine yn_iast hx hb hK hP hD hS 2 0 rfl rfl (j := 2 * c + 1) (x := y) (f1 := upd (upd o (2 * c) x) (2 * c + 1) y) (rfl) (by omega) (by omega) d_S_addPoint_32 (fun H locs hP hD hS => ?_)
    have hP : va_P (gD G) vwC (wS G h np no k c f (upd (upd o (2 * c) x) (2 * c + 1) y)) H := hP
    have hD : va_D A (wS G h np no k c f (upd (upd o (2 * c) x) (2 * c + 1) y)) := hD
    refine lv_aload_n hx hb d_S_addPoint_33 rfl (lv_at hl 0 rfl) ?_
    refine lv_dup hx hb d_S_addPoint_34 rfl ?_
    refine va_get (D := gD G) (ci := 2) (v := .int (nI c)) (C := "WordShapes$Shape") (T := TS) (N := 4) hx hb hg iw_S hown hK hP 0 rfl rfl 3 (by decide) (hg _ tk_47) (fun _ h9 => h9) rfl d_S_addPoint_35 ?_
    refine lv_iconst (v := nI 1) hx hb d_S_addPoint_38 (by decide) ?_
    refine lv_iadd hx hb d_S_addPoint_39 ?_
    refine y_eqi (nI_add _ _) ?_
    refine va_put (D := gD G) (ci := 2) (v := .int (nI (c + 1))) (ty := .int) (C := "WordShapes$Shape") (T := TS) (N := 4) hx hb hg iw_S ft_S fo_S nm_S hown hK hP hD hS 0 rfl rfl 3 (by decide) (hg _ tk_47) (fun _ h9 => h9) rfl (by decide +kernel) (rfl) (rfl) (Nat.le_of_ble_eq_true rfl) d_S_addPoint_40 (fun H locs hP hD hS => ?_)
    have hP : va_P (gD G) vwC (wS G h np no k (c + 1) f (upd (upd o (2 * c) x) (2 * c + 1) y)) H := hP
    have hD : va_D A (wS G h np no k (c + 1) f (upd (upd o (2 * c) x) (2 * c + 1) y)) := hD
    exact yr_v (ws := wS G h np no k (c + 1) f (upd (upd o (2 * c) x) (2 * c + 1) y)) hx hb hrt hlocks (⟨rfl, rfl⟩) rfl hK hP hD hS d_S_addPoint_43
set_option maxHeartbeats 4000000 in
set_option maxRecDepth 100000 in
theorem c_S_numberAt (l : Launch) (G : gl) (h : Nat → Nat) (np : Nat) (no : Nat) (k : Nat) (c : Nat) (f : Nat → Int32) (o : Nat → Int32) (j : Nat) (hj : j < 2 ^ 31) (hk : k ≤ np) (hn : np < 2 ^ 31) : YC l G y_S_numberAt k_S_numberAt 2 (Option.some FieldType.int) 0 0 [.ref (h 0), .int (nI j)] (wS G h np no k c f o) (fun v w => v = some (.int (if j < k then f j else 0)) ∧ w = wS G h np no k c f o) (fun _ _ => False) := by
  refine yc_of (by decide) ?_
  intro pg ev sx mm bl mt cd A C0 hP hD
  obtain ⟨hx, hb, hrt, hml, hown, hg, hlocks, hxt, hE, hK, hA, hmn⟩ := C0
  have hS : va_S A sx.heap sx.heap [] := va_S.rf
  have hl := lv_entry ([.ref (h 0), .int (nI j)]) (n := 2) (Nat.le_of_ble_eq_true rfl)
  rw [lg_entry_eq]
  generalize (lg_sl ([.ref (h 0), .int (nI j)]) ++ List.replicate (2 - (lg_sl ([.ref (h 0), .int (nI j)])).length) Slot.unset).toArray = ls at hl ⊢
  have hl : lv_has ls 2 [(0, .ref (h 0)), (1, .int (nI j))] := hl
  obtain ⟨H, hH⟩ : ∃ H, H = sx.heap := ⟨_, rfl⟩
  rw [← hH] at hP
  have hS : va_S A sx.heap H [] := by rw [hH]; exact hS
  suffices h9 : W pg l ev (yR 0 0) sx mm _ bl mt cd H [] 0 0 (yMQ bl G A _ _ _ _ sx) (F0 mm 0 ls []) by rw [hH] at h9; exact h9
  obtain ⟨locs, hlo⟩ : ∃ locs : List Loc, locs = [] := ⟨_, rfl⟩
  rw [← hlo] at hS ⊢
  refine lv_iload_n hx hb d_S_numberAt_0 rfl (lv_at hl 1 rfl) ?_
  refine yn_if_lt (a := j) (tgt := 21) hx hb d_S_numberAt_1 (by decide) (by omega) (fun c1 => ?_) (fun c1 => ?_)
  · skip
    exact c1.elim
  · skip
    refine lv_iload_n hx hb d_S_numberAt_4 rfl (lv_at hl 1 rfl) ?_
    refine lv_aload_n hx hb d_S_numberAt_5 rfl (lv_at hl 0 rfl) ?_
    refine va_get (D := gD G) (ci := 2) (v := .int (nI k)) (C := "WordShapes$Shape") (T := TS) (N := 4) hx hb hg iw_S hown hK hP 0 rfl rfl 2 (by decide) (hg _ tk_43) (fun _ h9 => h9) rfl d_S_numberAt_6 ?_
    refine yn_icmp_ge (a := j) (b := k) (tgt := 21) hx hb d_S_numberAt_9 (by decide) (by omega) (by omega) (fun c9 => ?_) (fun c9 => ?_)
    · skip
      refine lv_iconst (v := nI 0) hx hb d_S_numberAt_21 (by decide) ?_
      exact yr_i (ws := wS G h np no k c f o) hx hb hrt hlocks (⟨by first | rw [if_pos c9] | rw [if_neg (by omega)]; rfl, rfl⟩) rfl hK hP hD hS d_S_numberAt_22
    · skip
      refine lv_aload_n hx hb d_S_numberAt_12 rfl (lv_at hl 0 rfl) ?_
      refine va_get (D := gD G) (ci := 2) (v := .ref (h 1)) (C := "WordShapes$Shape") (T := TS) (N := 4) hx hb hg iw_S hown hK hP 0 rfl rfl 0 (by decide) (hg _ tk_41) (fun _ h9 => h9) rfl d_S_numberAt_13 ?_
      refine lv_iload_n hx hb d_S_numberAt_16 rfl (lv_at hl 1 rfl) ?_
      refine yn_iald hx hb hK hP 1 0 rfl rfl (j := j) (x := f j) (rfl) (by omega) (by omega) d_S_numberAt_17 ?_
      refine lv_goto (tgt := 22) hx hb d_S_numberAt_18 (by decide) ?_
      exact yr_i (ws := wS G h np no k c f o) hx hb hrt hlocks (⟨by first | rw [if_pos c9] | rw [if_neg (by omega)]; rfl, rfl⟩) rfl hK hP hD hS d_S_numberAt_22
set_option maxHeartbeats 4000000 in
set_option maxRecDepth 100000 in
theorem c_S_ordinateAt (l : Launch) (G : gl) (h : Nat → Nat) (np : Nat) (no : Nat) (k : Nat) (c : Nat) (f : Nat → Int32) (o : Nat → Int32) (j : Nat) (x : Nat) (hj : j < 2 ^ 20) (hx9 : x ≤ 1) (hc : 2 * c ≤ no) (hn : no < 2 ^ 20) : YC l G y_S_ordinateAt k_S_ordinateAt 3 (Option.some FieldType.int) 0 0 [.ref (h 0), .int (nI j), .int (nI x)] (wS G h np no k c f o) (fun v w => v = some (.int (if j < c then o (2 * j + x) else 0)) ∧ w = wS G h np no k c f o) (fun _ _ => False) := by
  refine yc_of (by decide) ?_
  intro pg ev sx mm bl mt cd A C0 hP hD
  obtain ⟨hx, hb, hrt, hml, hown, hg, hlocks, hxt, hE, hK, hA, hmn⟩ := C0
  have hS : va_S A sx.heap sx.heap [] := va_S.rf
  have hl := lv_entry ([.ref (h 0), .int (nI j), .int (nI x)]) (n := 3) (Nat.le_of_ble_eq_true rfl)
  rw [lg_entry_eq]
  generalize (lg_sl ([.ref (h 0), .int (nI j), .int (nI x)]) ++ List.replicate (3 - (lg_sl ([.ref (h 0), .int (nI j), .int (nI x)])).length) Slot.unset).toArray = ls at hl ⊢
  have hl : lv_has ls 3 [(0, .ref (h 0)), (1, .int (nI j)), (2, .int (nI x))] := hl
  obtain ⟨H, hH⟩ : ∃ H, H = sx.heap := ⟨_, rfl⟩
  rw [← hH] at hP
  have hS : va_S A sx.heap H [] := by rw [hH]; exact hS
  suffices h9 : W pg l ev (yR 0 0) sx mm _ bl mt cd H [] 0 0 (yMQ bl G A _ _ _ _ sx) (F0 mm 0 ls []) by rw [hH] at h9; exact h9
  obtain ⟨locs, hlo⟩ : ∃ locs : List Loc, locs = [] := ⟨_, rfl⟩
  rw [← hlo] at hS ⊢
  refine lv_iload_n hx hb d_S_ordinateAt_0 rfl (lv_at hl 1 rfl) ?_
  refine yn_if_lt (a := j) (tgt := 27) hx hb d_S_ordinateAt_1 (by decide) (by omega) (fun c1 => ?_) (fun c1 => ?_)
  · skip
    exact c1.elim
  · skip
    refine lv_iload_n hx hb d_S_ordinateAt_4 rfl (lv_at hl 1 rfl) ?_
    refine lv_aload_n hx hb d_S_ordinateAt_5 rfl (lv_at hl 0 rfl) ?_
    refine va_get (D := gD G) (ci := 2) (v := .int (nI c)) (C := "WordShapes$Shape") (T := TS) (N := 4) hx hb hg iw_S hown hK hP 0 rfl rfl 3 (by decide) (hg _ tk_47) (fun _ h9 => h9) rfl d_S_ordinateAt_6 ?_
    refine yn_icmp_ge (a := j) (b := c) (tgt := 27) hx hb d_S_ordinateAt_9 (by decide) (by omega) (by omega) (fun c9 => ?_) (fun c9 => ?_)
    · skip
      refine lv_iconst (v := nI 0) hx hb d_S_ordinateAt_27 (by decide) ?_
      exact yr_i (ws := wS G h np no k c f o) hx hb hrt hlocks (⟨by first | rw [if_pos c9] | rw [if_neg (by omega)]; rfl, rfl⟩) rfl hK hP hD hS d_S_ordinateAt_28
    · skip
      refine lv_aload_n hx hb d_S_ordinateAt_12 rfl (lv_at hl 0 rfl) ?_
      refine va_get (D := gD G) (ci := 2) (v := .ref (h 2)) (C := "WordShapes$Shape") (T := TS) (N := 4) hx hb hg iw_S hown hK hP 0 rfl rfl 1 (by decide) (hg _ tk_42) (fun _ h9 => h9) rfl d_S_ordinateAt_13 ?_
      refine lv_iconst (v := nI 2) hx hb d_S_ordinateAt_16 (by decide) ?_
      refine lv_iload_n hx hb d_S_ordinateAt_17 rfl (lv_at hl 1 rfl) ?_
      refine lv_imul hx hb d_S_ordinateAt_18 ?_
      refine y_eqi (pk_mul _ _) ?_
      refine lv_iload_n hx hb d_S_ordinateAt_19 rfl (lv_at hl 2 rfl) ?_
      refine lv_iconst (v := nI 1) hx hb d_S_ordinateAt_20 (by decide) ?_
      refine lv_iand hx hb d_S_ordinateAt_21 ?_
      refine y_eqi (y := nI x) ((pk_andN (by omega) 1 (by decide)).trans (congrArg nI (by omega))) ?_
      refine lv_iadd hx hb d_S_ordinateAt_22 ?_
      refine y_eqi (nI_add _ _) ?_
      refine yn_iald hx hb hK hP 2 0 rfl rfl (j := 2 * j + x) (x := o (2 * j + x)) (rfl) (by omega) (by omega) d_S_ordinateAt_23 ?_
      refine lv_goto (tgt := 28) hx hb d_S_ordinateAt_24 (by decide) ?_
      exact yr_i (ws := wS G h np no k c f o) hx hb hrt hlocks (⟨by first | rw [if_pos c9] | rw [if_neg (by omega)]; rfl, rfl⟩) rfl hK hP hD hS d_S_ordinateAt_28
set_option maxHeartbeats 4000000 in
set_option maxRecDepth 100000 in
theorem c_S_takeFrom (l : Launch) (G : gl) (h : Nat → Nat) (u : Nat → Nat) (np : Nat) (no : Nat) (k : Nat) (c : Nat) (f : Nat → Int32) (o : Nat → Int32) (k2 : Nat) (c2 : Nat) (f2 : Nat → Int32) (o2 : Nat → Int32)  (hk : k2 ≤ np) (hc : 2 * c2 ≤ no) (hn : np < 2 ^ 20) (ho : no < 2 ^ 20) : YC l G y_S_takeFrom k_S_takeFrom 3 (Option.none : Option FieldType) 2 42 [.ref (h 0), .ref (u 0)] (wSS G h u np no k c f o k2 c2 f2 o2) (fun v w => v = none ∧ w = wSS G h u np no k2 c2 (tkF f f2 k2) (tkF o o2 (2 * c2)) k2 c2 f2 o2) (fun _ _ => False) := by
  refine yc_of (by decide) ?_
  intro pg ev sx mm bl mt cd A C0 hP hD
  obtain ⟨hx, hb, hrt, hml, hown, hg, hlocks, hxt, hE, hK, hA, hmn⟩ := C0
  have hS : va_S A sx.heap sx.heap [] := va_S.rf
  have hl := lv_entry ([.ref (h 0), .ref (u 0)]) (n := 3) (Nat.le_of_ble_eq_true rfl)
  rw [lg_entry_eq]
  generalize (lg_sl ([.ref (h 0), .ref (u 0)]) ++ List.replicate (3 - (lg_sl ([.ref (h 0), .ref (u 0)])).length) Slot.unset).toArray = ls at hl ⊢
  have hl : lv_has ls 3 [(0, .ref (h 0)), (1, .ref (u 0))] := hl
  obtain ⟨H, hH⟩ : ∃ H, H = sx.heap := ⟨_, rfl⟩
  rw [← hH] at hP
  have hS : va_S A sx.heap H [] := by rw [hH]; exact hS
  suffices h9 : W pg l ev (yR 2 42) sx mm _ bl mt cd H [] 0 0 (yMQ bl G A _ _ _ _ sx) (F0 mm 0 ls []) by rw [hH] at h9; exact h9
  obtain ⟨locs, hlo⟩ : ∃ locs : List Loc, locs = [] := ⟨_, rfl⟩
  rw [← hlo] at hS ⊢
  have J32 : ∀ (n9 : Nat) (i : Nat) (hm9 : c2 - i < n9) (hi : i ≤ c2) (H : Heap) (locs : List Loc) (ls : Array Slot), va_P (gD G) vwC (wSS G h u np no k2 i (tkF f f2 k2) (tkF o o2 (2 * i)) k2 c2 f2 o2) H → va_D A (wSS G h u np no k2 i (tkF f f2 k2) (tkF o o2 (2 * i)) k2 c2 f2 o2) → va_S A sx.heap H locs → lv_has ls 3 [(0, .ref (h 0)), (1, .ref (u 0)), (2, .int (nI i))] → W pg l ev (yR 2 42) sx mm ([.ref (h 0), .ref (u 0)] : List Value).toArray bl mt cd H locs 0 0 (yMQ bl G A (wSS G h u np no k c f o k2 c2 f2 o2).length (fun v w => v = none ∧ w = wSS G h u np no k2 c2 (tkF f f2 k2) (tkF o o2 (2 * c2)) k2 c2 f2 o2) (fun _ _ => False) ([.ref (h 0), .ref (u 0)] : List Value).toArray sx) (F0 mm 32 ls []) := by
    intro n9
    induction n9 with
    | zero => intro i hm9; exact absurd hm9 (Nat.not_lt_zero _)
    | succ n9 ih9 =>
      intro i hm9 hi H locs ls hP hD hS hl
      refine lv_iload_n hx hb d_S_takeFrom_32 rfl (lv_at hl 2 rfl) ?_
      refine lv_aload_n hx hb d_S_takeFrom_33 rfl (lv_at hl 1 rfl) ?_
      refine va_get (D := gD G) (ci := 2) (v := .int (nI c2)) (C := "WordShapes$Shape") (T := TS) (N := 4) hx hb hg iw_S hown hK hP 3 rfl rfl 3 (by decide) (hg _ tk_47) (fun _ h9 => h9) rfl d_S_takeFrom_34 ?_
      refine yn_icmp_ge (a := i) (b := c2) (tgt := 68) hx hb d_S_takeFrom_37 (by decide) (by omega) (by omega) (fun c37 => ?_) (fun c37 => ?_)
      · skip
        have e9 : i = c2 := by omega
        rw [e9] at hP hD
        exact yr_v (ws := wSS G h u np no k2 c2 (tkF f f2 k2) (tkF o o2 (2 * c2)) k2 c2 f2 o2) hx hb hrt hlocks (⟨rfl, rfl⟩) rfl hK hP hD hS d_S_takeFrom_68
      · skip
        refine lv_aload_n hx hb d_S_takeFrom_40 rfl (lv_at hl 0 rfl) ?_
        refine lv_aload_n hx hb d_S_takeFrom_41 rfl (lv_at hl 1 rfl) ?_
        refine va_get (D := gD G) (ci := 2) (v := .ref (u 2)) (C := "WordShapes$Shape") (T := TS) (N := 4) hx hb hg iw_S hown hK hP 3 rfl rfl 1 (by decide) (hg _ tk_42) (fun _ h9 => h9) rfl d_S_takeFrom_42 ?_
        refine lv_iconst (v := nI 2) hx hb d_S_takeFrom_45 (by decide) ?_
        refine lv_iload_n hx hb d_S_takeFrom_46 rfl (lv_at hl 2 rfl) ?_
        refine lv_imul hx hb d_S_takeFrom_47 ?_
        refine y_eqi (pk_mul _ _) ?_
        refine yn_iald hx hb hK hP 5 0 rfl rfl (j := 2 * i) (x := o2 (2 * i)) (rfl) (by omega) (by omega) d_S_takeFrom_48 ?_
        refine lv_aload_n hx hb d_S_takeFrom_49 rfl (lv_at hl 1 rfl) ?_
        refine va_get (D := gD G) (ci := 2) (v := .ref (u 2)) (C := "WordShapes$Shape") (T := TS) (N := 4) hx hb hg iw_S hown hK hP 3 rfl rfl 1 (by decide) (hg _ tk_42) (fun _ h9 => h9) rfl d_S_takeFrom_50 ?_
        refine lv_iconst (v := nI 2) hx hb d_S_takeFrom_53 (by decide) ?_
        refine lv_iload_n hx hb d_S_takeFrom_54 rfl (lv_at hl 2 rfl) ?_
        refine lv_imul hx hb d_S_takeFrom_55 ?_
        refine y_eqi (pk_mul _ _) ?_
        refine lv_iconst (v := nI 1) hx hb d_S_takeFrom_56 (by decide) ?_
        refine lv_iadd hx hb d_S_takeFrom_57 ?_
        refine y_eqi (nI_add _ _) ?_
        refine yn_iald hx hb hK hP 5 0 rfl rfl (j := 2 * i + 1) (x := o2 (2 * i + 1)) (rfl) (by omega) (by omega) d_S_takeFrom_58 ?_
        refine y_call (y_runV (As := [.int (o2 (2 * i)), .int (o2 (2 * i + 1))]) (rest := []) hx hb hml hown (c_S_addPoint l G h np no k2 i (tkF f f2 k2) (tkF o o2 (2 * i)) (o2 (2 * i)) (o2 (2 * i + 1)) (by omega) (by omega)) (gV (n := 2) hg tk_536 tk_514 tk_515 tk_3 tk_516 (by decide +kernel) ⟨Nat.le_of_ble_eq_true rfl, Nat.le_of_ble_eq_true rfl⟩) (va_recv hK hP (ci := 2) (q0 := 0) rfl rfl) (y_pre hE hK hP hD hS hA [0, 1, 2] rfl rfl) rfl rfl hl.1 rfl (lv_room (Nat.le_of_ble_eq_true rfl)) d_S_takeFrom_59 ⟨Nat.le_of_ble_eq_true rfl, Nat.le_of_ble_eq_true rfl⟩) hP hD hS hA [0, 1, 2] rfl (fun _ _ _ _ _ _ hp => False.elim hp) (fun v w H locs hp hlw hP hD hS => ?_)
        obtain ⟨rfl, rfl⟩ := hp
        have hP : va_P (gD G) vwC (wSS G h u np no k2 (i + 1) (tkF f f2 k2) (upd (upd (tkF o o2 (2 * i)) (2 * i) (o2 (2 * i))) (2 * i + 1) (o2 (2 * i + 1))) k2 c2 f2 o2) H := hP
        have hD : va_D A (wSS G h u np no k2 (i + 1) (tkF f f2 k2) (upd (upd (tkF o o2 (2 * i)) (2 * i) (o2 (2 * i))) (2 * i + 1) (o2 (2 * i + 1))) k2 c2 f2 o2) := hD
        refine W.eq (g2 := F0 mm 62 ls []) rfl ?_
        rw [tkF_s2] at hP hD
        refine lv_iinc (v := nI (i + 1)) (lv' := [(2, .int (nI (i + 1))), (0, .ref (h 0)), (1, .ref (u 0))]) hx hb d_S_takeFrom_62 hl (k := 2) rfl (y_inc _) (by decide) rfl (fun ls hl => ?_)
        refine lv_goto (tgt := 32) hx hb d_S_takeFrom_65 (by decide) ?_
        exact ih9 (i + 1) (by omega) (by omega) _ _ _ hP hD hS (lv_sub hl [1, 2, 0] (rfl))
  have J6 : ∀ (n9 : Nat) (i : Nat) (hm9 : k2 - i < n9) (hi : i ≤ k2) (H : Heap) (locs : List Loc) (ls : Array Slot), va_P (gD G) vwC (wSS G h u np no i 0 (tkF f f2 i) o k2 c2 f2 o2) H → va_D A (wSS G h u np no i 0 (tkF f f2 i) o k2 c2 f2 o2) → va_S A sx.heap H locs → lv_has ls 3 [(0, .ref (h 0)), (1, .ref (u 0)), (2, .int (nI i))] → W pg l ev (yR 2 42) sx mm ([.ref (h 0), .ref (u 0)] : List Value).toArray bl mt cd H locs 0 0 (yMQ bl G A (wSS G h u np no k c f o k2 c2 f2 o2).length (fun v w => v = none ∧ w = wSS G h u np no k2 c2 (tkF f f2 k2) (tkF o o2 (2 * c2)) k2 c2 f2 o2) (fun _ _ => False) ([.ref (h 0), .ref (u 0)] : List Value).toArray sx) (F0 mm 6 ls []) := by
    intro n9
    induction n9 with
    | zero => intro i hm9; exact absurd hm9 (Nat.not_lt_zero _)
    | succ n9 ih9 =>
      intro i hm9 hi H locs ls hP hD hS hl
      refine lv_iload_n hx hb d_S_takeFrom_6 rfl (lv_at hl 2 rfl) ?_
      refine lv_aload_n hx hb d_S_takeFrom_7 rfl (lv_at hl 1 rfl) ?_
      refine va_get (D := gD G) (ci := 2) (v := .int (nI k2)) (C := "WordShapes$Shape") (T := TS) (N := 4) hx hb hg iw_S hown hK hP 3 rfl rfl 2 (by decide) (hg _ tk_43) (fun _ h9 => h9) rfl d_S_takeFrom_8 ?_
      refine yn_icmp_ge (a := i) (b := k2) (tgt := 30) hx hb d_S_takeFrom_11 (by decide) (by omega) (by omega) (fun c11 => ?_) (fun c11 => ?_)
      · skip
        refine lv_iconst (v := nI 0) hx hb d_S_takeFrom_30 (by decide) ?_
        refine lv_istore_n (lv' := [(2, .int (nI 0)), (0, .ref (h 0)), (1, .ref (u 0))]) hx hb d_S_takeFrom_31 rfl hl (by decide) rfl (fun ls hl => ?_)
        obtain rfl : i = k2 := by omega
        rw [← tkF_0 o o2] at hP hD
        exact J32 _ 0 (Nat.lt_succ_self _) (by omega) _ _ _ hP hD hS (lv_sub hl [1, 2, 0] (rfl))
      · skip
        refine lv_aload_n hx hb d_S_takeFrom_14 rfl (lv_at hl 0 rfl) ?_
        refine lv_aload_n hx hb d_S_takeFrom_15 rfl (lv_at hl 1 rfl) ?_
        refine va_get (D := gD G) (ci := 2) (v := .ref (u 1)) (C := "WordShapes$Shape") (T := TS) (N := 4) hx hb hg iw_S hown hK hP 3 rfl rfl 0 (by decide) (hg _ tk_41) (fun _ h9 => h9) rfl d_S_takeFrom_16 ?_
        refine lv_iload_n hx hb d_S_takeFrom_19 rfl (lv_at hl 2 rfl) ?_
        refine yn_iald hx hb hK hP 4 0 rfl rfl (j := i) (x := f2 i) (rfl) (by omega) (by omega) d_S_takeFrom_20 ?_
        refine y_call (y_runV (As := [.int (f2 i)]) (rest := []) hx hb hml hown (c_S_addNumber l G h np no i 0 (tkF f f2 i) o (f2 i) (by omega) (by omega)) (gV (n := 1) hg tk_535 tk_456 tk_457 tk_3 tk_458 (by decide +kernel) ⟨Nat.le_of_ble_eq_true rfl, Nat.le_of_ble_eq_true rfl⟩) (va_recv hK hP (ci := 2) (q0 := 0) rfl rfl) (y_pre hE hK hP hD hS hA [0, 1, 2] rfl rfl) rfl rfl hl.1 rfl (lv_room (Nat.le_of_ble_eq_true rfl)) d_S_takeFrom_21 ⟨Nat.le_of_ble_eq_true rfl, Nat.le_of_ble_eq_true rfl⟩) hP hD hS hA [0, 1, 2] rfl (fun _ _ _ _ _ _ hp => False.elim hp) (fun v w H locs hp hlw hP hD hS => ?_)
        obtain ⟨rfl, rfl⟩ := hp
        have hP : va_P (gD G) vwC (wSS G h u np no (i + 1) 0 (upd (tkF f f2 i) i (f2 i)) o k2 c2 f2 o2) H := hP
        have hD : va_D A (wSS G h u np no (i + 1) 0 (upd (tkF f f2 i) i (f2 i)) o k2 c2 f2 o2) := hD
        refine W.eq (g2 := F0 mm 24 ls []) rfl ?_
        rw [tkF_s] at hP hD
        refine lv_iinc (v := nI (i + 1)) (lv' := [(2, .int (nI (i + 1))), (0, .ref (h 0)), (1, .ref (u 0))]) hx hb d_S_takeFrom_24 hl (k := 2) rfl (y_inc _) (by decide) rfl (fun ls hl => ?_)
        refine lv_goto (tgt := 6) hx hb d_S_takeFrom_27 (by decide) ?_
        exact ih9 (i + 1) (by omega) (by omega) _ _ _ hP hD hS (lv_sub hl [1, 2, 0] (rfl))
  refine lv_aload_n hx hb d_S_takeFrom_0 rfl (lv_at hl 0 rfl) ?_
  refine y_call (y_runV (As := []) (rest := []) hx hb hml hown (c_S_clear l G h np no k c f o  ) (gV (n := 0) hg tk_534 tk_316 tk_317 tk_3 tk_318 (by decide +kernel) ⟨Nat.le_of_ble_eq_true rfl, Nat.le_of_ble_eq_true rfl⟩) (va_recv hK hP (ci := 2) (q0 := 0) rfl rfl) (y_pre hE hK hP hD hS hA [0, 1, 2] rfl rfl) rfl rfl hl.1 rfl (lv_room (Nat.le_of_ble_eq_true rfl)) d_S_takeFrom_1 ⟨Nat.le_of_ble_eq_true rfl, Nat.le_of_ble_eq_true rfl⟩) hP hD hS hA [0, 1, 2] rfl (fun _ _ _ _ _ _ hp => False.elim hp) (fun v w H locs hp hlw hP hD hS => ?_)
  obtain ⟨rfl, rfl⟩ := hp
  have hP : va_P (gD G) vwC (wSS G h u np no 0 0 f o k2 c2 f2 o2) H := hP
  have hD : va_D A (wSS G h u np no 0 0 f o k2 c2 f2 o2) := hD
  refine W.eq (g2 := F0 mm 4 ls []) rfl ?_
  refine lv_iconst (v := nI 0) hx hb d_S_takeFrom_4 (by decide) ?_
  refine lv_istore_n (lv' := [(2, .int (nI 0)), (0, .ref (h 0)), (1, .ref (u 0))]) hx hb d_S_takeFrom_5 rfl hl (by decide) rfl (fun ls hl => ?_)
  rw [← tkF_0 f f2] at hP hD
  exact J6 _ 0 (Nat.lt_succ_self _) (by omega) _ _ _ hP hD hS (lv_sub hl [1, 2, 0] (rfl))
set_option maxHeartbeats 4000000 in
set_option maxRecDepth 100000 in
theorem c_S_isLike (l : Launch) (G : gl) (h : Nat → Nat) (u : Nat → Nat) (np : Nat) (no : Nat) (k : Nat) (c : Nat) (f : Nat → Int32) (o : Nat → Int32) (k2 : Nat) (c2 : Nat) (f2 : Nat → Int32) (o2 : Nat → Int32)  (hk : k ≤ np) (hc : 2 * c ≤ no) (hk2 : k2 ≤ np) (hc2 : 2 * c2 ≤ no) (hn : np < 2 ^ 20) (ho : no < 2 ^ 20) : YC l G y_S_isLike k_S_isLike 3 (Option.some FieldType.boolean) 0 0 [.ref (h 0), .ref (u 0)] (wSS G h u np no k c f o k2 c2 f2 o2) (fun v w => v = some (.int (bz (decide (k = k2 ∧ c = c2 ∧ (∀ j, j < k → f j = f2 j) ∧ ∀ j, j < 2 * c → o j = o2 j)))) ∧ w = wSS G h u np no k c f o k2 c2 f2 o2) (fun _ _ => False) := by
  refine yc_of (by decide) ?_
  intro pg ev sx mm bl mt cd A C0 hP hD
  obtain ⟨hx, hb, hrt, hml, hown, hg, hlocks, hxt, hE, hK, hA, hmn⟩ := C0
  have hS : va_S A sx.heap sx.heap [] := va_S.rf
  have hl := lv_entry ([.ref (h 0), .ref (u 0)]) (n := 3) (Nat.le_of_ble_eq_true rfl)
  rw [lg_entry_eq]
  generalize (lg_sl ([.ref (h 0), .ref (u 0)]) ++ List.replicate (3 - (lg_sl ([.ref (h 0), .ref (u 0)])).length) Slot.unset).toArray = ls at hl ⊢
  have hl : lv_has ls 3 [(0, .ref (h 0)), (1, .ref (u 0))] := hl
  obtain ⟨H, hH⟩ : ∃ H, H = sx.heap := ⟨_, rfl⟩
  rw [← hH] at hP
  have hS : va_S A sx.heap H [] := by rw [hH]; exact hS
  suffices h9 : W pg l ev (yR 0 0) sx mm _ bl mt cd H [] 0 0 (yMQ bl G A _ _ _ _ sx) (F0 mm 0 ls []) by rw [hH] at h9; exact h9
  obtain ⟨locs, hlo⟩ : ∃ locs : List Loc, locs = [] := ⟨_, rfl⟩
  rw [← hlo] at hS ⊢
  have J59 : ∀ (n9 : Nat) (i : Nat) (hm9 : 2 * c - i < n9) (e1 : k = k2) (e2 : c = c2) (hi : i ≤ 2 * c) (hf : ∀ j, j < k → f j = f2 j) (hq : ∀ j, j < i → o j = o2 j) (H : Heap) (locs : List Loc) (ls : Array Slot), va_P (gD G) vwC (wSS G h u np no k c f o k2 c2 f2 o2) H → va_D A (wSS G h u np no k c f o k2 c2 f2 o2) → va_S A sx.heap H locs → lv_has ls 3 [(0, .ref (h 0)), (1, .ref (u 0)), (2, .int (nI i))] → W pg l ev (yR 0 0) sx mm ([.ref (h 0), .ref (u 0)] : List Value).toArray bl mt cd H locs 0 0 (yMQ bl G A (wSS G h u np no k c f o k2 c2 f2 o2).length (fun v w => v = some (.int (bz (decide (k = k2 ∧ c = c2 ∧ (∀ j, j < k → f j = f2 j) ∧ ∀ j, j < 2 * c → o j = o2 j)))) ∧ w = wSS G h u np no k c f o k2 c2 f2 o2) (fun _ _ => False) ([.ref (h 0), .ref (u 0)] : List Value).toArray sx) (F0 mm 59 ls []) := by
    intro n9
    induction n9 with
    | zero => intro i hm9; exact absurd hm9 (Nat.not_lt_zero _)
    | succ n9 ih9 =>
      intro i hm9 e1 e2 hi hf hq H locs ls hP hD hS hl
      refine lv_iload_n hx hb d_S_isLike_59 rfl (lv_at hl 2 rfl) ?_
      refine lv_iconst (v := nI 2) hx hb d_S_isLike_60 (by decide) ?_
      refine lv_aload_n hx hb d_S_isLike_61 rfl (lv_at hl 0 rfl) ?_
      refine va_get (D := gD G) (ci := 2) (v := .int (nI c)) (C := "WordShapes$Shape") (T := TS) (N := 4) hx hb hg iw_S hown hK hP 0 rfl rfl 3 (by decide) (hg _ tk_47) (fun _ h9 => h9) rfl d_S_isLike_62 ?_
      refine lv_imul hx hb d_S_isLike_65 ?_
      refine y_eqi (pk_mul _ _) ?_
      refine yn_icmp_ge (a := i) (b := 2 * c) (tgt := 92) hx hb d_S_isLike_66 (by decide) (by omega) (by omega) (fun c66 => ?_) (fun c66 => ?_)
      · skip
        refine lv_iconst (v := nI 1) hx hb d_S_isLike_92 (by decide) ?_
        exact yr_z (ws := wSS G h u np no k c f o k2 c2 f2 o2) hx hb hrt (rfl) hlocks (⟨congrArg (fun z => some (Value.int z)) (bz_t (by first | (intro q9; exact absurd q9.1 (by omega)) | (intro q9; exact absurd q9.2.1 (by omega)) | (intro q9; exact absurd (q9.2.2.1 i (by omega)) (by assumption)) | (intro q9; exact absurd (q9.2.2.2 i (by omega)) (by assumption)) | exact ⟨by omega, by omega, hf, fun j hj => hq j (by omega)⟩)), rfl⟩) rfl hK hP hD hS d_S_isLike_93
      · skip
        refine lv_aload_n hx hb d_S_isLike_69 rfl (lv_at hl 0 rfl) ?_
        refine va_get (D := gD G) (ci := 2) (v := .ref (h 2)) (C := "WordShapes$Shape") (T := TS) (N := 4) hx hb hg iw_S hown hK hP 0 rfl rfl 1 (by decide) (hg _ tk_42) (fun _ h9 => h9) rfl d_S_isLike_70 ?_
        refine lv_iload_n hx hb d_S_isLike_73 rfl (lv_at hl 2 rfl) ?_
        refine yn_iald hx hb hK hP 2 0 rfl rfl (j := i) (x := o i) (rfl) (by omega) (by omega) d_S_isLike_74 ?_
        refine lv_aload_n hx hb d_S_isLike_75 rfl (lv_at hl 1 rfl) ?_
        refine va_get (D := gD G) (ci := 2) (v := .ref (u 2)) (C := "WordShapes$Shape") (T := TS) (N := 4) hx hb hg iw_S hown hK hP 3 rfl rfl 1 (by decide) (hg _ tk_42) (fun _ h9 => h9) rfl d_S_isLike_76 ?_
        refine lv_iload_n hx hb d_S_isLike_79 rfl (lv_at hl 2 rfl) ?_
        refine yn_iald hx hb hK hP 5 0 rfl rfl (j := i) (x := o2 i) (rfl) (by omega) (by omega) d_S_isLike_80 ?_
        refine lv_icmp_eq (tgt := 86) hx hb d_S_isLike_81 (by decide) (fun c81 => ?_) (fun c81 => ?_)
        · skip
          refine lv_iinc (v := nI (i + 1)) (lv' := [(2, .int (nI (i + 1))), (0, .ref (h 0)), (1, .ref (u 0))]) hx hb d_S_isLike_86 hl (k := 2) rfl (y_inc _) (by decide) rfl (fun ls hl => ?_)
          refine lv_goto (tgt := 59) hx hb d_S_isLike_89 (by decide) ?_
          exact ih9 (i + 1) (by omega) (by omega) (by omega) (by omega) (hf) (lt_s hq c81) _ _ _ hP hD hS (lv_sub hl [1, 2, 0] (rfl))
        · skip
          refine lv_iconst (v := nI 0) hx hb d_S_isLike_84 (by decide) ?_
          exact yr_z (ws := wSS G h u np no k c f o k2 c2 f2 o2) hx hb hrt (rfl) hlocks (⟨congrArg (fun z => some (Value.int z)) (bz_f (by first | (intro q9; exact absurd q9.1 (by omega)) | (intro q9; exact absurd q9.2.1 (by omega)) | (intro q9; exact absurd (q9.2.2.1 i (by omega)) (by assumption)) | (intro q9; exact absurd (q9.2.2.2 i (by omega)) (by assumption)) | exact ⟨by omega, by omega, hf, fun j hj => hq j (by omega)⟩)), rfl⟩) rfl hK hP hD hS d_S_isLike_85
  have J26 : ∀ (n9 : Nat) (i : Nat) (hm9 : k - i < n9) (e1 : k = k2) (e2 : c = c2) (hi : i ≤ k) (hq : ∀ j, j < i → f j = f2 j) (H : Heap) (locs : List Loc) (ls : Array Slot), va_P (gD G) vwC (wSS G h u np no k c f o k2 c2 f2 o2) H → va_D A (wSS G h u np no k c f o k2 c2 f2 o2) → va_S A sx.heap H locs → lv_has ls 3 [(0, .ref (h 0)), (1, .ref (u 0)), (2, .int (nI i))] → W pg l ev (yR 0 0) sx mm ([.ref (h 0), .ref (u 0)] : List Value).toArray bl mt cd H locs 0 0 (yMQ bl G A (wSS G h u np no k c f o k2 c2 f2 o2).length (fun v w => v = some (.int (bz (decide (k = k2 ∧ c = c2 ∧ (∀ j, j < k → f j = f2 j) ∧ ∀ j, j < 2 * c → o j = o2 j)))) ∧ w = wSS G h u np no k c f o k2 c2 f2 o2) (fun _ _ => False) ([.ref (h 0), .ref (u 0)] : List Value).toArray sx) (F0 mm 26 ls []) := by
    intro n9
    induction n9 with
    | zero => intro i hm9; exact absurd hm9 (Nat.not_lt_zero _)
    | succ n9 ih9 =>
      intro i hm9 e1 e2 hi hq H locs ls hP hD hS hl
      refine lv_iload_n hx hb d_S_isLike_26 rfl (lv_at hl 2 rfl) ?_
      refine lv_aload_n hx hb d_S_isLike_27 rfl (lv_at hl 0 rfl) ?_
      refine va_get (D := gD G) (ci := 2) (v := .int (nI k)) (C := "WordShapes$Shape") (T := TS) (N := 4) hx hb hg iw_S hown hK hP 0 rfl rfl 2 (by decide) (hg _ tk_43) (fun _ h9 => h9) rfl d_S_isLike_28 ?_
      refine yn_icmp_ge (a := i) (b := k) (tgt := 57) hx hb d_S_isLike_31 (by decide) (by omega) (by omega) (fun c31 => ?_) (fun c31 => ?_)
      · skip
        refine lv_iconst (v := nI 0) hx hb d_S_isLike_57 (by decide) ?_
        refine lv_istore_n (lv' := [(2, .int (nI 0)), (0, .ref (h 0)), (1, .ref (u 0))]) hx hb d_S_isLike_58 rfl hl (by decide) rfl (fun ls hl => ?_)
        exact J59 _ 0 (Nat.lt_succ_self _) (by omega) (by omega) (by omega) (fun j hj => hq j (by omega)) (lt_0) _ _ _ hP hD hS (lv_sub hl [1, 2, 0] (rfl))
      · skip
        refine lv_aload_n hx hb d_S_isLike_34 rfl (lv_at hl 0 rfl) ?_
        refine va_get (D := gD G) (ci := 2) (v := .ref (h 1)) (C := "WordShapes$Shape") (T := TS) (N := 4) hx hb hg iw_S hown hK hP 0 rfl rfl 0 (by decide) (hg _ tk_41) (fun _ h9 => h9) rfl d_S_isLike_35 ?_
        refine lv_iload_n hx hb d_S_isLike_38 rfl (lv_at hl 2 rfl) ?_
        refine yn_iald hx hb hK hP 1 0 rfl rfl (j := i) (x := f i) (rfl) (by omega) (by omega) d_S_isLike_39 ?_
        refine lv_aload_n hx hb d_S_isLike_40 rfl (lv_at hl 1 rfl) ?_
        refine va_get (D := gD G) (ci := 2) (v := .ref (u 1)) (C := "WordShapes$Shape") (T := TS) (N := 4) hx hb hg iw_S hown hK hP 3 rfl rfl 0 (by decide) (hg _ tk_41) (fun _ h9 => h9) rfl d_S_isLike_41 ?_
        refine lv_iload_n hx hb d_S_isLike_44 rfl (lv_at hl 2 rfl) ?_
        refine yn_iald hx hb hK hP 4 0 rfl rfl (j := i) (x := f2 i) (rfl) (by omega) (by omega) d_S_isLike_45 ?_
        refine lv_icmp_eq (tgt := 51) hx hb d_S_isLike_46 (by decide) (fun c46 => ?_) (fun c46 => ?_)
        · skip
          refine lv_iinc (v := nI (i + 1)) (lv' := [(2, .int (nI (i + 1))), (0, .ref (h 0)), (1, .ref (u 0))]) hx hb d_S_isLike_51 hl (k := 2) rfl (y_inc _) (by decide) rfl (fun ls hl => ?_)
          refine lv_goto (tgt := 26) hx hb d_S_isLike_54 (by decide) ?_
          exact ih9 (i + 1) (by omega) (by omega) (by omega) (by omega) (lt_s hq c46) _ _ _ hP hD hS (lv_sub hl [1, 2, 0] (rfl))
        · skip
          refine lv_iconst (v := nI 0) hx hb d_S_isLike_49 (by decide) ?_
          exact yr_z (ws := wSS G h u np no k c f o k2 c2 f2 o2) hx hb hrt (rfl) hlocks (⟨congrArg (fun z => some (Value.int z)) (bz_f (by first | (intro q9; exact absurd q9.1 (by omega)) | (intro q9; exact absurd q9.2.1 (by omega)) | (intro q9; exact absurd (q9.2.2.1 i (by omega)) (by assumption)) | (intro q9; exact absurd (q9.2.2.2 i (by omega)) (by assumption)) | exact ⟨by omega, by omega, hf, fun j hj => hq j (by omega)⟩)), rfl⟩) rfl hK hP hD hS d_S_isLike_50
  refine lv_aload_n hx hb d_S_isLike_0 rfl (lv_at hl 0 rfl) ?_
  refine va_get (D := gD G) (ci := 2) (v := .int (nI k)) (C := "WordShapes$Shape") (T := TS) (N := 4) hx hb hg iw_S hown hK hP 0 rfl rfl 2 (by decide) (hg _ tk_43) (fun _ h9 => h9) rfl d_S_isLike_1 ?_
  refine lv_aload_n hx hb d_S_isLike_4 rfl (lv_at hl 1 rfl) ?_
  refine va_get (D := gD G) (ci := 2) (v := .int (nI k2)) (C := "WordShapes$Shape") (T := TS) (N := 4) hx hb hg iw_S hown hK hP 3 rfl rfl 2 (by decide) (hg _ tk_43) (fun _ h9 => h9) rfl d_S_isLike_5 ?_
  refine yn_icmp_ne (a := k) (b := k2) (tgt := 22) hx hb d_S_isLike_8 (by decide) (by omega) (by omega) (fun c8 => ?_) (fun c8 => ?_)
  · skip
    refine lv_iconst (v := nI 0) hx hb d_S_isLike_22 (by decide) ?_
    exact yr_z (ws := wSS G h u np no k c f o k2 c2 f2 o2) hx hb hrt (rfl) hlocks (⟨congrArg (fun z => some (Value.int z)) (bz_f (by first | (intro q9; exact absurd q9.1 (by omega)) | (intro q9; exact absurd q9.2.1 (by omega)) | (intro q9; exact absurd (q9.2.2.1 i (by omega)) (by assumption)) | (intro q9; exact absurd (q9.2.2.2 i (by omega)) (by assumption)) | exact ⟨by omega, by omega, hf, fun j hj => hq j (by omega)⟩)), rfl⟩) rfl hK hP hD hS d_S_isLike_23
  · skip
    refine lv_aload_n hx hb d_S_isLike_11 rfl (lv_at hl 0 rfl) ?_
    refine va_get (D := gD G) (ci := 2) (v := .int (nI c)) (C := "WordShapes$Shape") (T := TS) (N := 4) hx hb hg iw_S hown hK hP 0 rfl rfl 3 (by decide) (hg _ tk_47) (fun _ h9 => h9) rfl d_S_isLike_12 ?_
    refine lv_aload_n hx hb d_S_isLike_15 rfl (lv_at hl 1 rfl) ?_
    refine va_get (D := gD G) (ci := 2) (v := .int (nI c2)) (C := "WordShapes$Shape") (T := TS) (N := 4) hx hb hg iw_S hown hK hP 3 rfl rfl 3 (by decide) (hg _ tk_47) (fun _ h9 => h9) rfl d_S_isLike_16 ?_
    refine yn_icmp_eq (a := c) (b := c2) (tgt := 24) hx hb d_S_isLike_19 (by decide) (by omega) (by omega) (fun c19 => ?_) (fun c19 => ?_)
    · skip
      refine lv_iconst (v := nI 0) hx hb d_S_isLike_24 (by decide) ?_
      refine lv_istore_n (lv' := [(2, .int (nI 0)), (0, .ref (h 0)), (1, .ref (u 0))]) hx hb d_S_isLike_25 rfl hl (by decide) rfl (fun ls hl => ?_)
      exact J26 _ 0 (Nat.lt_succ_self _) (by omega) (by omega) (by omega) (lt_0) _ _ _ hP hD hS (lv_sub hl [1, 2, 0] (rfl))
    · skip
      refine lv_iconst (v := nI 0) hx hb d_S_isLike_22 (by decide) ?_
      exact yr_z (ws := wSS G h u np no k c f o k2 c2 f2 o2) hx hb hrt (rfl) hlocks (⟨congrArg (fun z => some (Value.int z)) (bz_f (by first | (intro q9; exact absurd q9.1 (by omega)) | (intro q9; exact absurd q9.2.1 (by omega)) | (intro q9; exact absurd (q9.2.2.1 i (by omega)) (by assumption)) | (intro q9; exact absurd (q9.2.2.2 i (by omega)) (by assumption)) | exact ⟨by omega, by omega, hf, fun j hj => hq j (by omega)⟩)), rfl⟩) rfl hK hP hD hS d_S_isLike_23
