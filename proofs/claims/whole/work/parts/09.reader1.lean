theorem xo_W_55_59 : XOk "WordShapes" 55 59 "java/lang/IllegalStateException" := ⟨by decide, tk_190, tk_11, by decide +kernel, by decide +kernel, by decide +kernel⟩
theorem xo_R_194_198 : XOk "WordShapes$Reader" 194 198 "java/lang/IllegalArgumentException" := ⟨by decide, tk_374, tk_12, by decide +kernel, by decide +kernel, by decide +kernel⟩
set_option maxHeartbeats 4000000 in
set_option maxRecDepth 100000 in
theorem c_R_isBlank (l : Launch) (G : gl)  (b : Int32)  : YC l G y_R_isBlank k_R_isBlank 1 (Option.some FieldType.boolean) 0 0 [.int b] ([]) (fun v w => v = some (.int (bz (isBl b))) ∧ w = []) (fun _ _ => False) := by
  refine yc_of (by decide) ?_
  intro pg ev sx mm bl mt cd A C0 hP hD
  obtain ⟨hx, hb, hrt, hml, hown, hg, hlocks, hxt, hE, hK, hA, hmn⟩ := C0
  have hS : va_S A sx.heap sx.heap [] := va_S.rf
  have hl := lv_entry ([.int b]) (n := 1) (Nat.le_of_ble_eq_true rfl)
  rw [lg_entry_eq]
  generalize (lg_sl ([.int b]) ++ List.replicate (1 - (lg_sl ([.int b])).length) Slot.unset).toArray = ls at hl ⊢
  have hl : lv_has ls 1 [(0, .int b)] := hl
  obtain ⟨H, hH⟩ : ∃ H, H = sx.heap := ⟨_, rfl⟩
  rw [← hH] at hP
  have hS : va_S A sx.heap H [] := by rw [hH]; exact hS
  suffices h9 : W pg l ev (yR 0 0) sx mm _ bl mt cd H [] 0 0 (yMQ bl G A _ _ _ _ sx) (F0 mm 0 ls []) by rw [hH] at h9; exact h9
  obtain ⟨locs, hlo⟩ : ∃ locs : List Loc, locs = [] := ⟨_, rfl⟩
  rw [← hlo] at hS ⊢
  refine lv_iload_n hx hb d_R_isBlank_0 rfl (lv_at hl 0 rfl) ?_
  refine lv_bipush (v := nI 32) hx hb d_R_isBlank_1 (by decide) ?_
  refine lv_icmp_eq (tgt := 24) hx hb d_R_isBlank_3 (by decide) (fun c3 => ?_) (fun c3 => ?_)
  · skip
    refine lv_iconst (v := nI 1) hx hb d_R_isBlank_24 (by decide) ?_
    refine lv_goto (tgt := 29) hx hb d_R_isBlank_25 (by decide) ?_
    exact yr_z (ws := []) hx hb hrt (rfl) hlocks (⟨congrArg (fun z => some (Value.int z)) (bz_t (by first | exact Or.inl (by assumption) | exact Or.inr (Or.inl (by assumption)) | exact Or.inr (Or.inr (Or.inl (by assumption))) | exact Or.inr (Or.inr (Or.inr (by assumption))) | (intro z; rcases z with z | z | z | z <;> contradiction))), rfl⟩) rfl hK hP hD hS d_R_isBlank_29
  · skip
    refine lv_iload_n hx hb d_R_isBlank_6 rfl (lv_at hl 0 rfl) ?_
    refine lv_bipush (v := nI 9) hx hb d_R_isBlank_7 (by decide) ?_
    refine lv_icmp_eq (tgt := 24) hx hb d_R_isBlank_9 (by decide) (fun c9 => ?_) (fun c9 => ?_)
    · skip
      refine lv_iconst (v := nI 1) hx hb d_R_isBlank_24 (by decide) ?_
      refine lv_goto (tgt := 29) hx hb d_R_isBlank_25 (by decide) ?_
      exact yr_z (ws := []) hx hb hrt (rfl) hlocks (⟨congrArg (fun z => some (Value.int z)) (bz_t (by first | exact Or.inl (by assumption) | exact Or.inr (Or.inl (by assumption)) | exact Or.inr (Or.inr (Or.inl (by assumption))) | exact Or.inr (Or.inr (Or.inr (by assumption))) | (intro z; rcases z with z | z | z | z <;> contradiction))), rfl⟩) rfl hK hP hD hS d_R_isBlank_29
    · skip
      refine lv_iload_n hx hb d_R_isBlank_12 rfl (lv_at hl 0 rfl) ?_
      refine lv_bipush (v := nI 10) hx hb d_R_isBlank_13 (by decide) ?_
      refine lv_icmp_eq (tgt := 24) hx hb d_R_isBlank_15 (by decide) (fun c15 => ?_) (fun c15 => ?_)
      · skip
        refine lv_iconst (v := nI 1) hx hb d_R_isBlank_24 (by decide) ?_
        refine lv_goto (tgt := 29) hx hb d_R_isBlank_25 (by decide) ?_
        exact yr_z (ws := []) hx hb hrt (rfl) hlocks (⟨congrArg (fun z => some (Value.int z)) (bz_t (by first | exact Or.inl (by assumption) | exact Or.inr (Or.inl (by assumption)) | exact Or.inr (Or.inr (Or.inl (by assumption))) | exact Or.inr (Or.inr (Or.inr (by assumption))) | (intro z; rcases z with z | z | z | z <;> contradiction))), rfl⟩) rfl hK hP hD hS d_R_isBlank_29
      · skip
        refine lv_iload_n hx hb d_R_isBlank_18 rfl (lv_at hl 0 rfl) ?_
        refine lv_bipush (v := nI 13) hx hb d_R_isBlank_19 (by decide) ?_
        refine lv_icmp_ne (tgt := 28) hx hb d_R_isBlank_21 (by decide) (fun c21 => ?_) (fun c21 => ?_)
        · skip
          refine lv_iconst (v := nI 0) hx hb d_R_isBlank_28 (by decide) ?_
          exact yr_z (ws := []) hx hb hrt (rfl) hlocks (⟨congrArg (fun z => some (Value.int z)) (bz_f (by first | exact Or.inl (by assumption) | exact Or.inr (Or.inl (by assumption)) | exact Or.inr (Or.inr (Or.inl (by assumption))) | exact Or.inr (Or.inr (Or.inr (by assumption))) | (intro z; rcases z with z | z | z | z <;> contradiction))), rfl⟩) rfl hK hP hD hS d_R_isBlank_29
        · skip
          refine lv_iconst (v := nI 1) hx hb d_R_isBlank_24 (by decide) ?_
          refine lv_goto (tgt := 29) hx hb d_R_isBlank_25 (by decide) ?_
          exact yr_z (ws := []) hx hb hrt (rfl) hlocks (⟨congrArg (fun z => some (Value.int z)) (bz_t (by first | exact Or.inl (by assumption) | exact Or.inr (Or.inl (by assumption)) | exact Or.inr (Or.inr (Or.inl (by assumption))) | exact Or.inr (Or.inr (Or.inr (by assumption))) | (intro z; rcases z with z | z | z | z <;> contradiction))), rfl⟩) rfl hK hP hD hS d_R_isBlank_29
set_option maxHeartbeats 4000000 in
set_option maxRecDepth 100000 in
theorem c_R_isLetter (l : Launch) (G : gl)  (b : Int32)  : YC l G y_R_isLetter k_R_isLetter 1 (Option.some FieldType.boolean) 0 0 [.int b] ([]) (fun v w => v = some (.int (bz (isLe b))) ∧ w = []) (fun _ _ => False) := by
  refine yc_of (by decide) ?_
  intro pg ev sx mm bl mt cd A C0 hP hD
  obtain ⟨hx, hb, hrt, hml, hown, hg, hlocks, hxt, hE, hK, hA, hmn⟩ := C0
  have hS : va_S A sx.heap sx.heap [] := va_S.rf
  have hl := lv_entry ([.int b]) (n := 1) (Nat.le_of_ble_eq_true rfl)
  rw [lg_entry_eq]
  generalize (lg_sl ([.int b]) ++ List.replicate (1 - (lg_sl ([.int b])).length) Slot.unset).toArray = ls at hl ⊢
  have hl : lv_has ls 1 [(0, .int b)] := hl
  obtain ⟨H, hH⟩ : ∃ H, H = sx.heap := ⟨_, rfl⟩
  rw [← hH] at hP
  have hS : va_S A sx.heap H [] := by rw [hH]; exact hS
  suffices h9 : W pg l ev (yR 0 0) sx mm _ bl mt cd H [] 0 0 (yMQ bl G A _ _ _ _ sx) (F0 mm 0 ls []) by rw [hH] at h9; exact h9
  obtain ⟨locs, hlo⟩ : ∃ locs : List Loc, locs = [] := ⟨_, rfl⟩
  rw [← hlo] at hS ⊢
  refine lv_iload_n hx hb d_R_isLetter_0 rfl (lv_at hl 0 rfl) ?_
  refine lv_bipush (v := nI 65) hx hb d_R_isLetter_1 (by decide) ?_
  refine lv_icmp_lt (tgt := 12) hx hb d_R_isLetter_3 (by decide) (fun c3 => ?_) (fun c3 => ?_)
  · skip
    refine lv_iload_n hx hb d_R_isLetter_12 rfl (lv_at hl 0 rfl) ?_
    refine lv_bipush (v := nI 97) hx hb d_R_isLetter_13 (by decide) ?_
    refine lv_icmp_lt (tgt := 28) hx hb d_R_isLetter_15 (by decide) (fun c15 => ?_) (fun c15 => ?_)
    · skip
      refine lv_iconst (v := nI 0) hx hb d_R_isLetter_28 (by decide) ?_
      exact yr_z (ws := []) hx hb hrt (rfl) hlocks (⟨congrArg (fun z => some (Value.int z)) (bz_f (by first | exact Or.inl ⟨Int32.not_lt.mp c3, c9⟩ | exact Or.inr ⟨Int32.not_lt.mp c15, Int32.not_lt.mp c21⟩ | (intro z; rcases z with z | z <;> first | exact absurd z.1 (Int32.not_le.mpr c3) | exact absurd z.2 c9 | exact absurd z.1 (Int32.not_le.mpr c15) | exact absurd z.2 (Int32.not_le.mpr c21)))), rfl⟩) rfl hK hP hD hS d_R_isLetter_29
    · skip
      refine lv_iload_n hx hb d_R_isLetter_18 rfl (lv_at hl 0 rfl) ?_
      refine lv_bipush (v := nI 122) hx hb d_R_isLetter_19 (by decide) ?_
      refine lv_icmp_gt (tgt := 28) hx hb d_R_isLetter_21 (by decide) (fun c21 => ?_) (fun c21 => ?_)
      · skip
        refine lv_iconst (v := nI 0) hx hb d_R_isLetter_28 (by decide) ?_
        exact yr_z (ws := []) hx hb hrt (rfl) hlocks (⟨congrArg (fun z => some (Value.int z)) (bz_f (by first | exact Or.inl ⟨Int32.not_lt.mp c3, c9⟩ | exact Or.inr ⟨Int32.not_lt.mp c15, Int32.not_lt.mp c21⟩ | (intro z; rcases z with z | z <;> first | exact absurd z.1 (Int32.not_le.mpr c3) | exact absurd z.2 c9 | exact absurd z.1 (Int32.not_le.mpr c15) | exact absurd z.2 (Int32.not_le.mpr c21)))), rfl⟩) rfl hK hP hD hS d_R_isLetter_29
      · skip
        refine lv_iconst (v := nI 1) hx hb d_R_isLetter_24 (by decide) ?_
        refine lv_goto (tgt := 29) hx hb d_R_isLetter_25 (by decide) ?_
        exact yr_z (ws := []) hx hb hrt (rfl) hlocks (⟨congrArg (fun z => some (Value.int z)) (bz_t (by first | exact Or.inl ⟨Int32.not_lt.mp c3, c9⟩ | exact Or.inr ⟨Int32.not_lt.mp c15, Int32.not_lt.mp c21⟩ | (intro z; rcases z with z | z <;> first | exact absurd z.1 (Int32.not_le.mpr c3) | exact absurd z.2 c9 | exact absurd z.1 (Int32.not_le.mpr c15) | exact absurd z.2 (Int32.not_le.mpr c21)))), rfl⟩) rfl hK hP hD hS d_R_isLetter_29
  · skip
    refine lv_iload_n hx hb d_R_isLetter_6 rfl (lv_at hl 0 rfl) ?_
    refine lv_bipush (v := nI 90) hx hb d_R_isLetter_7 (by decide) ?_
    refine lv_icmp_le (tgt := 24) hx hb d_R_isLetter_9 (by decide) (fun c9 => ?_) (fun c9 => ?_)
    · skip
      refine lv_iconst (v := nI 1) hx hb d_R_isLetter_24 (by decide) ?_
      refine lv_goto (tgt := 29) hx hb d_R_isLetter_25 (by decide) ?_
      exact yr_z (ws := []) hx hb hrt (rfl) hlocks (⟨congrArg (fun z => some (Value.int z)) (bz_t (by first | exact Or.inl ⟨Int32.not_lt.mp c3, c9⟩ | exact Or.inr ⟨Int32.not_lt.mp c15, Int32.not_lt.mp c21⟩ | (intro z; rcases z with z | z <;> first | exact absurd z.1 (Int32.not_le.mpr c3) | exact absurd z.2 c9 | exact absurd z.1 (Int32.not_le.mpr c15) | exact absurd z.2 (Int32.not_le.mpr c21)))), rfl⟩) rfl hK hP hD hS d_R_isLetter_29
    · skip
      refine lv_iload_n hx hb d_R_isLetter_12 rfl (lv_at hl 0 rfl) ?_
      refine lv_bipush (v := nI 97) hx hb d_R_isLetter_13 (by decide) ?_
      refine lv_icmp_lt (tgt := 28) hx hb d_R_isLetter_15 (by decide) (fun c15 => ?_) (fun c15 => ?_)
      · skip
        refine lv_iconst (v := nI 0) hx hb d_R_isLetter_28 (by decide) ?_
        exact yr_z (ws := []) hx hb hrt (rfl) hlocks (⟨congrArg (fun z => some (Value.int z)) (bz_f (by first | exact Or.inl ⟨Int32.not_lt.mp c3, c9⟩ | exact Or.inr ⟨Int32.not_lt.mp c15, Int32.not_lt.mp c21⟩ | (intro z; rcases z with z | z <;> first | exact absurd z.1 (Int32.not_le.mpr c3) | exact absurd z.2 c9 | exact absurd z.1 (Int32.not_le.mpr c15) | exact absurd z.2 (Int32.not_le.mpr c21)))), rfl⟩) rfl hK hP hD hS d_R_isLetter_29
      · skip
        refine lv_iload_n hx hb d_R_isLetter_18 rfl (lv_at hl 0 rfl) ?_
        refine lv_bipush (v := nI 122) hx hb d_R_isLetter_19 (by decide) ?_
        refine lv_icmp_gt (tgt := 28) hx hb d_R_isLetter_21 (by decide) (fun c21 => ?_) (fun c21 => ?_)
        · skip
          refine lv_iconst (v := nI 0) hx hb d_R_isLetter_28 (by decide) ?_
          exact yr_z (ws := []) hx hb hrt (rfl) hlocks (⟨congrArg (fun z => some (Value.int z)) (bz_f (by first | exact Or.inl ⟨Int32.not_lt.mp c3, c9⟩ | exact Or.inr ⟨Int32.not_lt.mp c15, Int32.not_lt.mp c21⟩ | (intro z; rcases z with z | z <;> first | exact absurd z.1 (Int32.not_le.mpr c3) | exact absurd z.2 c9 | exact absurd z.1 (Int32.not_le.mpr c15) | exact absurd z.2 (Int32.not_le.mpr c21)))), rfl⟩) rfl hK hP hD hS d_R_isLetter_29
        · skip
          refine lv_iconst (v := nI 1) hx hb d_R_isLetter_24 (by decide) ?_
          refine lv_goto (tgt := 29) hx hb d_R_isLetter_25 (by decide) ?_
          exact yr_z (ws := []) hx hb hrt (rfl) hlocks (⟨congrArg (fun z => some (Value.int z)) (bz_t (by first | exact Or.inl ⟨Int32.not_lt.mp c3, c9⟩ | exact Or.inr ⟨Int32.not_lt.mp c15, Int32.not_lt.mp c21⟩ | (intro z; rcases z with z | z <;> first | exact absurd z.1 (Int32.not_le.mpr c3) | exact absurd z.2 c9 | exact absurd z.1 (Int32.not_le.mpr c15) | exact absurd z.2 (Int32.not_le.mpr c21)))), rfl⟩) rfl hK hP hD hS d_R_isLetter_29
set_option maxHeartbeats 4000000 in
set_option maxRecDepth 100000 in
theorem c_R_isDigit (l : Launch) (G : gl)  (b : Int32)  : YC l G y_R_isDigit k_R_isDigit 1 (Option.some FieldType.boolean) 0 0 [.int b] ([]) (fun v w => v = some (.int (bz (isDi b))) ∧ w = []) (fun _ _ => False) := by
  refine yc_of (by decide) ?_
  intro pg ev sx mm bl mt cd A C0 hP hD
  obtain ⟨hx, hb, hrt, hml, hown, hg, hlocks, hxt, hE, hK, hA, hmn⟩ := C0
  have hS : va_S A sx.heap sx.heap [] := va_S.rf
  have hl := lv_entry ([.int b]) (n := 1) (Nat.le_of_ble_eq_true rfl)
  rw [lg_entry_eq]
  generalize (lg_sl ([.int b]) ++ List.replicate (1 - (lg_sl ([.int b])).length) Slot.unset).toArray = ls at hl ⊢
  have hl : lv_has ls 1 [(0, .int b)] := hl
  obtain ⟨H, hH⟩ : ∃ H, H = sx.heap := ⟨_, rfl⟩
  rw [← hH] at hP
  have hS : va_S A sx.heap H [] := by rw [hH]; exact hS
  suffices h9 : W pg l ev (yR 0 0) sx mm _ bl mt cd H [] 0 0 (yMQ bl G A _ _ _ _ sx) (F0 mm 0 ls []) by rw [hH] at h9; exact h9
  obtain ⟨locs, hlo⟩ : ∃ locs : List Loc, locs = [] := ⟨_, rfl⟩
  rw [← hlo] at hS ⊢
  refine lv_iload_n hx hb d_R_isDigit_0 rfl (lv_at hl 0 rfl) ?_
  refine lv_bipush (v := nI 48) hx hb d_R_isDigit_1 (by decide) ?_
  refine lv_icmp_lt (tgt := 16) hx hb d_R_isDigit_3 (by decide) (fun c3 => ?_) (fun c3 => ?_)
  · skip
    refine lv_iconst (v := nI 0) hx hb d_R_isDigit_16 (by decide) ?_
    exact yr_z (ws := []) hx hb hrt (rfl) hlocks (⟨congrArg (fun z => some (Value.int z)) (bz_f (by first | exact ⟨Int32.not_lt.mp c3, Int32.not_lt.mp c9⟩ | (intro z; first | exact absurd z.1 (Int32.not_le.mpr c3) | exact absurd z.2 (Int32.not_le.mpr c9)))), rfl⟩) rfl hK hP hD hS d_R_isDigit_17
  · skip
    refine lv_iload_n hx hb d_R_isDigit_6 rfl (lv_at hl 0 rfl) ?_
    refine lv_bipush (v := nI 57) hx hb d_R_isDigit_7 (by decide) ?_
    refine lv_icmp_gt (tgt := 16) hx hb d_R_isDigit_9 (by decide) (fun c9 => ?_) (fun c9 => ?_)
    · skip
      refine lv_iconst (v := nI 0) hx hb d_R_isDigit_16 (by decide) ?_
      exact yr_z (ws := []) hx hb hrt (rfl) hlocks (⟨congrArg (fun z => some (Value.int z)) (bz_f (by first | exact ⟨Int32.not_lt.mp c3, Int32.not_lt.mp c9⟩ | (intro z; first | exact absurd z.1 (Int32.not_le.mpr c3) | exact absurd z.2 (Int32.not_le.mpr c9)))), rfl⟩) rfl hK hP hD hS d_R_isDigit_17
    · skip
      refine lv_iconst (v := nI 1) hx hb d_R_isDigit_12 (by decide) ?_
      refine lv_goto (tgt := 17) hx hb d_R_isDigit_13 (by decide) ?_
      exact yr_z (ws := []) hx hb hrt (rfl) hlocks (⟨congrArg (fun z => some (Value.int z)) (bz_t (by first | exact ⟨Int32.not_lt.mp c3, Int32.not_lt.mp c9⟩ | (intro z; first | exact absurd z.1 (Int32.not_le.mpr c3) | exact absurd z.2 (Int32.not_le.mpr c9)))), rfl⟩) rfl hK hP hD hS d_R_isDigit_17
set_option maxHeartbeats 4000000 in
set_option maxRecDepth 100000 in
theorem c_R_beginsNumber (l : Launch) (G : gl)  (b : Int32)  : YC l G y_R_beginsNumber k_R_beginsNumber 1 (Option.some FieldType.boolean) 0 0 [.int b] ([]) (fun v w => v = some (.int (bz (isNu b))) ∧ w = []) (fun _ _ => False) := by
  refine yc_of (by decide) ?_
  intro pg ev sx mm bl mt cd A C0 hP hD
  obtain ⟨hx, hb, hrt, hml, hown, hg, hlocks, hxt, hE, hK, hA, hmn⟩ := C0
  have hS : va_S A sx.heap sx.heap [] := va_S.rf
  have hl := lv_entry ([.int b]) (n := 1) (Nat.le_of_ble_eq_true rfl)
  rw [lg_entry_eq]
  generalize (lg_sl ([.int b]) ++ List.replicate (1 - (lg_sl ([.int b])).length) Slot.unset).toArray = ls at hl ⊢
  have hl : lv_has ls 1 [(0, .int b)] := hl
  obtain ⟨H, hH⟩ : ∃ H, H = sx.heap := ⟨_, rfl⟩
  rw [← hH] at hP
  have hS : va_S A sx.heap H [] := by rw [hH]; exact hS
  suffices h9 : W pg l ev (yR 0 0) sx mm _ bl mt cd H [] 0 0 (yMQ bl G A _ _ _ _ sx) (F0 mm 0 ls []) by rw [hH] at h9; exact h9
  obtain ⟨locs, hlo⟩ : ∃ locs : List Loc, locs = [] := ⟨_, rfl⟩
  rw [← hlo] at hS ⊢
  refine lv_iload_n hx hb d_R_beginsNumber_0 rfl (lv_at hl 0 rfl) ?_
  refine lv_bipush (v := nI 48) hx hb d_R_beginsNumber_1 (by decide) ?_
  refine lv_icmp_lt (tgt := 12) hx hb d_R_beginsNumber_3 (by decide) (fun c3 => ?_) (fun c3 => ?_)
  · skip
    refine lv_iload_n hx hb d_R_beginsNumber_12 rfl (lv_at hl 0 rfl) ?_
    refine lv_bipush (v := nI 43) hx hb d_R_beginsNumber_13 (by decide) ?_
    refine lv_icmp_eq (tgt := 30) hx hb d_R_beginsNumber_15 (by decide) (fun c15 => ?_) (fun c15 => ?_)
    · skip
      refine lv_iconst (v := nI 1) hx hb d_R_beginsNumber_30 (by decide) ?_
      refine lv_goto (tgt := 35) hx hb d_R_beginsNumber_31 (by decide) ?_
      exact yr_z (ws := []) hx hb hrt (rfl) hlocks (⟨congrArg (fun z => some (Value.int z)) (bz_t (by first | exact Or.inl ⟨Int32.not_lt.mp c3, c9⟩ | exact Or.inr (Or.inl (by assumption)) | exact Or.inr (Or.inr (Or.inl (by assumption))) | exact Or.inr (Or.inr (Or.inr (by assumption))) | (intro z; rcases z with z | z | z | z <;> first | contradiction | exact absurd z.1 (Int32.not_le.mpr c3) | exact absurd z.2 c9))), rfl⟩) rfl hK hP hD hS d_R_beginsNumber_35
    · skip
      refine lv_iload_n hx hb d_R_beginsNumber_18 rfl (lv_at hl 0 rfl) ?_
      refine lv_bipush (v := nI 45) hx hb d_R_beginsNumber_19 (by decide) ?_
      refine lv_icmp_eq (tgt := 30) hx hb d_R_beginsNumber_21 (by decide) (fun c21 => ?_) (fun c21 => ?_)
      · skip
        refine lv_iconst (v := nI 1) hx hb d_R_beginsNumber_30 (by decide) ?_
        refine lv_goto (tgt := 35) hx hb d_R_beginsNumber_31 (by decide) ?_
        exact yr_z (ws := []) hx hb hrt (rfl) hlocks (⟨congrArg (fun z => some (Value.int z)) (bz_t (by first | exact Or.inl ⟨Int32.not_lt.mp c3, c9⟩ | exact Or.inr (Or.inl (by assumption)) | exact Or.inr (Or.inr (Or.inl (by assumption))) | exact Or.inr (Or.inr (Or.inr (by assumption))) | (intro z; rcases z with z | z | z | z <;> first | contradiction | exact absurd z.1 (Int32.not_le.mpr c3) | exact absurd z.2 c9))), rfl⟩) rfl hK hP hD hS d_R_beginsNumber_35
      · skip
        refine lv_iload_n hx hb d_R_beginsNumber_24 rfl (lv_at hl 0 rfl) ?_
        refine lv_bipush (v := nI 46) hx hb d_R_beginsNumber_25 (by decide) ?_
        refine lv_icmp_ne (tgt := 34) hx hb d_R_beginsNumber_27 (by decide) (fun c27 => ?_) (fun c27 => ?_)
        · skip
          refine lv_iconst (v := nI 0) hx hb d_R_beginsNumber_34 (by decide) ?_
          exact yr_z (ws := []) hx hb hrt (rfl) hlocks (⟨congrArg (fun z => some (Value.int z)) (bz_f (by first | exact Or.inl ⟨Int32.not_lt.mp c3, c9⟩ | exact Or.inr (Or.inl (by assumption)) | exact Or.inr (Or.inr (Or.inl (by assumption))) | exact Or.inr (Or.inr (Or.inr (by assumption))) | (intro z; rcases z with z | z | z | z <;> first | contradiction | exact absurd z.1 (Int32.not_le.mpr c3) | exact absurd z.2 c9))), rfl⟩) rfl hK hP hD hS d_R_beginsNumber_35
        · skip
          refine lv_iconst (v := nI 1) hx hb d_R_beginsNumber_30 (by decide) ?_
          refine lv_goto (tgt := 35) hx hb d_R_beginsNumber_31 (by decide) ?_
          exact yr_z (ws := []) hx hb hrt (rfl) hlocks (⟨congrArg (fun z => some (Value.int z)) (bz_t (by first | exact Or.inl ⟨Int32.not_lt.mp c3, c9⟩ | exact Or.inr (Or.inl (by assumption)) | exact Or.inr (Or.inr (Or.inl (by assumption))) | exact Or.inr (Or.inr (Or.inr (by assumption))) | (intro z; rcases z with z | z | z | z <;> first | contradiction | exact absurd z.1 (Int32.not_le.mpr c3) | exact absurd z.2 c9))), rfl⟩) rfl hK hP hD hS d_R_beginsNumber_35
  · skip
    refine lv_iload_n hx hb d_R_beginsNumber_6 rfl (lv_at hl 0 rfl) ?_
    refine lv_bipush (v := nI 57) hx hb d_R_beginsNumber_7 (by decide) ?_
    refine lv_icmp_le (tgt := 30) hx hb d_R_beginsNumber_9 (by decide) (fun c9 => ?_) (fun c9 => ?_)
    · skip
      refine lv_iconst (v := nI 1) hx hb d_R_beginsNumber_30 (by decide) ?_
      refine lv_goto (tgt := 35) hx hb d_R_beginsNumber_31 (by decide) ?_
      exact yr_z (ws := []) hx hb hrt (rfl) hlocks (⟨congrArg (fun z => some (Value.int z)) (bz_t (by first | exact Or.inl ⟨Int32.not_lt.mp c3, c9⟩ | exact Or.inr (Or.inl (by assumption)) | exact Or.inr (Or.inr (Or.inl (by assumption))) | exact Or.inr (Or.inr (Or.inr (by assumption))) | (intro z; rcases z with z | z | z | z <;> first | contradiction | exact absurd z.1 (Int32.not_le.mpr c3) | exact absurd z.2 c9))), rfl⟩) rfl hK hP hD hS d_R_beginsNumber_35
    · skip
      refine lv_iload_n hx hb d_R_beginsNumber_12 rfl (lv_at hl 0 rfl) ?_
      refine lv_bipush (v := nI 43) hx hb d_R_beginsNumber_13 (by decide) ?_
      refine lv_icmp_eq (tgt := 30) hx hb d_R_beginsNumber_15 (by decide) (fun c15 => ?_) (fun c15 => ?_)
      · skip
        refine lv_iconst (v := nI 1) hx hb d_R_beginsNumber_30 (by decide) ?_
        refine lv_goto (tgt := 35) hx hb d_R_beginsNumber_31 (by decide) ?_
        exact yr_z (ws := []) hx hb hrt (rfl) hlocks (⟨congrArg (fun z => some (Value.int z)) (bz_t (by first | exact Or.inl ⟨Int32.not_lt.mp c3, c9⟩ | exact Or.inr (Or.inl (by assumption)) | exact Or.inr (Or.inr (Or.inl (by assumption))) | exact Or.inr (Or.inr (Or.inr (by assumption))) | (intro z; rcases z with z | z | z | z <;> first | contradiction | exact absurd z.1 (Int32.not_le.mpr c3) | exact absurd z.2 c9))), rfl⟩) rfl hK hP hD hS d_R_beginsNumber_35
      · skip
        refine lv_iload_n hx hb d_R_beginsNumber_18 rfl (lv_at hl 0 rfl) ?_
        refine lv_bipush (v := nI 45) hx hb d_R_beginsNumber_19 (by decide) ?_
        refine lv_icmp_eq (tgt := 30) hx hb d_R_beginsNumber_21 (by decide) (fun c21 => ?_) (fun c21 => ?_)
        · skip
          refine lv_iconst (v := nI 1) hx hb d_R_beginsNumber_30 (by decide) ?_
          refine lv_goto (tgt := 35) hx hb d_R_beginsNumber_31 (by decide) ?_
          exact yr_z (ws := []) hx hb hrt (rfl) hlocks (⟨congrArg (fun z => some (Value.int z)) (bz_t (by first | exact Or.inl ⟨Int32.not_lt.mp c3, c9⟩ | exact Or.inr (Or.inl (by assumption)) | exact Or.inr (Or.inr (Or.inl (by assumption))) | exact Or.inr (Or.inr (Or.inr (by assumption))) | (intro z; rcases z with z | z | z | z <;> first | contradiction | exact absurd z.1 (Int32.not_le.mpr c3) | exact absurd z.2 c9))), rfl⟩) rfl hK hP hD hS d_R_beginsNumber_35
        · skip
          refine lv_iload_n hx hb d_R_beginsNumber_24 rfl (lv_at hl 0 rfl) ?_
          refine lv_bipush (v := nI 46) hx hb d_R_beginsNumber_25 (by decide) ?_
          refine lv_icmp_ne (tgt := 34) hx hb d_R_beginsNumber_27 (by decide) (fun c27 => ?_) (fun c27 => ?_)
          · skip
            refine lv_iconst (v := nI 0) hx hb d_R_beginsNumber_34 (by decide) ?_
            exact yr_z (ws := []) hx hb hrt (rfl) hlocks (⟨congrArg (fun z => some (Value.int z)) (bz_f (by first | exact Or.inl ⟨Int32.not_lt.mp c3, c9⟩ | exact Or.inr (Or.inl (by assumption)) | exact Or.inr (Or.inr (Or.inl (by assumption))) | exact Or.inr (Or.inr (Or.inr (by assumption))) | (intro z; rcases z with z | z | z | z <;> first | contradiction | exact absurd z.1 (Int32.not_le.mpr c3) | exact absurd z.2 c9))), rfl⟩) rfl hK hP hD hS d_R_beginsNumber_35
          · skip
            refine lv_iconst (v := nI 1) hx hb d_R_beginsNumber_30 (by decide) ?_
            refine lv_goto (tgt := 35) hx hb d_R_beginsNumber_31 (by decide) ?_
            exact yr_z (ws := []) hx hb hrt (rfl) hlocks (⟨congrArg (fun z => some (Value.int z)) (bz_t (by first | exact Or.inl ⟨Int32.not_lt.mp c3, c9⟩ | exact Or.inr (Or.inl (by assumption)) | exact Or.inr (Or.inr (Or.inl (by assumption))) | exact Or.inr (Or.inr (Or.inr (by assumption))) | (intro z; rcases z with z | z | z | z <;> first | contradiction | exact absurd z.1 (Int32.not_le.mpr c3) | exact absurd z.2 c9))), rfl⟩) rfl hK hP hD hS d_R_beginsNumber_35
set_option maxHeartbeats 4000000 in
set_option maxRecDepth 100000 in
theorem c_R_here (l : Launch) (G : gl) (h : Nat → Nat) (dg : Nat) (n : Nat) (p : Nat) (fk : Nat) (fp : Nat) (t : Nat → Nat) (np : Nat) (no : Nat) (k : Nat) (c : Nat) (f : Nat → Int32) (o : Nat → Int32) (bt : Nat) (bk : Nat → Int32) (bn : Nat → Int32)  (hn : n ≤ 65536) (hp : p ≤ n) (ht : ∀ i, t i < 256) : YC l G y_R_here k_R_here 1 (Option.some FieldType.int) 0 0 [.ref (h 0)] (wR G h dg n p fk fp t np no k c f o bt bk bn) (fun v w => v = some (.int (toI (hr t n p))) ∧ w = wR G h dg n p fk fp t np no k c f o bt bk bn) (fun _ _ => False) := by
  refine yc_of (by decide) ?_
  intro pg ev sx mm bl mt cd A C0 hP hD
  obtain ⟨hx, hb, hrt, hml, hown, hg, hlocks, hxt, hE, hK, hA, hmn⟩ := C0
  have hS : va_S A sx.heap sx.heap [] := va_S.rf
  have hl := lv_entry ([.ref (h 0)]) (n := 1) (Nat.le_of_ble_eq_true rfl)
  rw [lg_entry_eq]
  generalize (lg_sl ([.ref (h 0)]) ++ List.replicate (1 - (lg_sl ([.ref (h 0)])).length) Slot.unset).toArray = ls at hl ⊢
  have hl : lv_has ls 1 [(0, .ref (h 0))] := hl
  obtain ⟨H, hH⟩ : ∃ H, H = sx.heap := ⟨_, rfl⟩
  rw [← hH] at hP
  have hS : va_S A sx.heap H [] := by rw [hH]; exact hS
  suffices h9 : W pg l ev (yR 0 0) sx mm _ bl mt cd H [] 0 0 (yMQ bl G A _ _ _ _ sx) (F0 mm 0 ls []) by rw [hH] at h9; exact h9
  obtain ⟨locs, hlo⟩ : ∃ locs : List Loc, locs = [] := ⟨_, rfl⟩
  rw [← hlo] at hS ⊢
  refine lv_aload_n hx hb d_R_here_0 rfl (lv_at hl 0 rfl) ?_
  refine va_get (D := gD G) (ci := 1) (v := .int (nI p)) (C := "WordShapes$Reader") (T := TR) (N := 8) hx hb hg iw_R hown hK hP 0 rfl rfl 5 (by decide) (hg _ tk_92) (fun _ h9 => h9) rfl d_R_here_1 ?_
  refine lv_aload_n hx hb d_R_here_4 rfl (lv_at hl 0 rfl) ?_
  refine va_get (D := gD G) (ci := 1) (v := .int (nI n)) (C := "WordShapes$Reader") (T := TR) (N := 8) hx hb hg iw_R hown hK hP 0 rfl rfl 4 (by decide) (hg _ tk_91) (fun _ h9 => h9) rfl d_R_here_5 ?_
  refine yn_icmp_ge (a := p) (b := n) (tgt := 27) hx hb d_R_here_8 (by decide) (by omega) (by omega) (fun c8 => ?_) (fun c8 => ?_)
  · skip
    refine lv_iconst (v := (-1)) hx hb d_R_here_27 (by decide) ?_
    exact yr_i (ws := wR G h dg n p fk fp t np no k c f o bt bk bn) hx hb hrt hlocks (⟨by unfold hr; first | (rw [if_pos c8]; unfold toI; rw [if_neg (by have := ht p; omega)]) | (rw [if_neg (by omega)]; rfl), rfl⟩) rfl hK hP hD hS d_R_here_28
  · skip
    refine lv_aload_n hx hb d_R_here_11 rfl (lv_at hl 0 rfl) ?_
    refine va_get (D := gD G) (ci := 1) (v := .ref (h 1)) (C := "WordShapes$Reader") (T := TR) (N := 8) hx hb hg iw_R hown hK hP 0 rfl rfl 0 (by decide) (hg _ tk_86) (fun _ h9 => h9) rfl d_R_here_12 ?_
    refine lv_aload_n hx hb d_R_here_15 rfl (lv_at hl 0 rfl) ?_
    refine va_get (D := gD G) (ci := 1) (v := .int (nI p)) (C := "WordShapes$Reader") (T := TR) (N := 8) hx hb hg iw_R hown hK hP 0 rfl rfl 5 (by decide) (hg _ tk_92) (fun _ h9 => h9) rfl d_R_here_16 ?_
    refine yn_bald hx hb hK hP 1 1 rfl rfl (j := p) (x := sb_b (t p)) (rfl) (by omega) (by omega) d_R_here_19 ?_
    refine lv_sipush (v := nI 255) hx hb d_R_here_20 (by decide) ?_
    refine lv_iand hx hb d_R_here_23 ?_
    refine y_eqi (sb_byte _ (by first | exact ht _ | omega)).1 ?_
    refine lv_goto (tgt := 28) hx hb d_R_here_24 (by decide) ?_
    exact yr_i (ws := wR G h dg n p fk fp t np no k c f o bt bk bn) hx hb hrt hlocks (⟨by unfold hr; first | (rw [if_pos c8]; unfold toI; rw [if_neg (by have := ht p; omega)]) | (rw [if_neg (by omega)]; rfl), rfl⟩) rfl hK hP hD hS d_R_here_28
set_option maxHeartbeats 4000000 in
set_option maxRecDepth 100000 in
theorem c_R_skipBlanks (l : Launch) (G : gl) (h : Nat → Nat) (dg : Nat) (n : Nat) (p : Nat) (fk : Nat) (fp : Nat) (t : Nat → Nat) (np : Nat) (no : Nat) (k : Nat) (c : Nat) (f : Nat → Int32) (o : Nat → Int32) (bt : Nat) (bk : Nat → Int32) (bn : Nat → Int32)  (hn : n ≤ 65536) (hp : p ≤ n) (ht : ∀ i, t i < 256) : YC l G y_R_skipBlanks k_R_skipBlanks 1 (Option.none : Option FieldType) 1 20 [.ref (h 0)] (wR G h dg n p fk fp t np no k c f o bt bk bn) (fun v w => v = none ∧ w = wR G h dg n (rn blN t n p) fk fp t np no k c f o bt bk bn) (fun _ _ => False) := by
  refine yc_of (by decide) ?_
  intro pg ev sx mm bl mt cd A C0 hP hD
  obtain ⟨hx, hb, hrt, hml, hown, hg, hlocks, hxt, hE, hK, hA, hmn⟩ := C0
  have hS : va_S A sx.heap sx.heap [] := va_S.rf
  have hl := lv_entry ([.ref (h 0)]) (n := 1) (Nat.le_of_ble_eq_true rfl)
  rw [lg_entry_eq]
  generalize (lg_sl ([.ref (h 0)]) ++ List.replicate (1 - (lg_sl ([.ref (h 0)])).length) Slot.unset).toArray = ls at hl ⊢
  have hl : lv_has ls 1 [(0, .ref (h 0))] := hl
  obtain ⟨H, hH⟩ : ∃ H, H = sx.heap := ⟨_, rfl⟩
  rw [← hH] at hP
  have hS : va_S A sx.heap H [] := by rw [hH]; exact hS
  suffices h9 : W pg l ev (yR 1 20) sx mm _ bl mt cd H [] 0 0 (yMQ bl G A _ _ _ _ sx) (F0 mm 0 ls []) by rw [hH] at h9; exact h9
  obtain ⟨locs, hlo⟩ : ∃ locs : List Loc, locs = [] := ⟨_, rfl⟩
  rw [← hlo] at hS ⊢
  have J0 : ∀ (n9 : Nat) (q : Nat) (hm9 : n - q < n9) (hq1 : p ≤ q) (hq2 : q ≤ n) (hq3 : rn blN t n q = rn blN t n p) (H : Heap) (locs : List Loc) (ls : Array Slot), va_P (gD G) vwC (wR G h dg n q fk fp t np no k c f o bt bk bn) H → va_D A (wR G h dg n q fk fp t np no k c f o bt bk bn) → va_S A sx.heap H locs → lv_has ls 1 [(0, .ref (h 0))] → W pg l ev (yR 1 20) sx mm ([.ref (h 0)] : List Value).toArray bl mt cd H locs 0 0 (yMQ bl G A (wR G h dg n p fk fp t np no k c f o bt bk bn).length (fun v w => v = none ∧ w = wR G h dg n (rn blN t n p) fk fp t np no k c f o bt bk bn) (fun _ _ => False) ([.ref (h 0)] : List Value).toArray sx) (F0 mm 0 ls []) := by
    intro n9
    induction n9 with
    | zero => intro q hm9; exact absurd hm9 (Nat.not_lt_zero _)
    | succ n9 ih9 =>
      intro q hm9 hq1 hq2 hq3 H locs ls hP hD hS hl
      refine lv_aload_n hx hb d_R_skipBlanks_0 rfl (lv_at hl 0 rfl) ?_
      refine va_get (D := gD G) (ci := 1) (v := .int (nI q)) (C := "WordShapes$Reader") (T := TR) (N := 8) hx hb hg iw_R hown hK hP 0 rfl rfl 5 (by decide) (hg _ tk_92) (fun _ h9 => h9) rfl d_R_skipBlanks_1 ?_
      refine lv_aload_n hx hb d_R_skipBlanks_4 rfl (lv_at hl 0 rfl) ?_
      refine va_get (D := gD G) (ci := 1) (v := .int (nI n)) (C := "WordShapes$Reader") (T := TR) (N := 8) hx hb hg iw_R hown hK hP 0 rfl rfl 4 (by decide) (hg _ tk_91) (fun _ h9 => h9) rfl d_R_skipBlanks_5 ?_
      refine yn_icmp_ge (a := q) (b := n) (tgt := 39) hx hb d_R_skipBlanks_8 (by decide) (by omega) (by omega) (fun c8 => ?_) (fun c8 => ?_)
      · skip
        have e9 : q = rn blN t n p := by rw [← hq3]; exact (rn_stop (fun z => by first | omega | (rw [← (ch_b _ (ht q)).1] at z; rw [c23] at z; exact absurd z.2 (by decide)))).symm
        rw [e9] at hP hD
        exact yr_v (ws := wR G h dg n (rn blN t n p) fk fp t np no k c f o bt bk bn) hx hb hrt hlocks (⟨rfl, rfl⟩) rfl hK hP hD hS d_R_skipBlanks_39
      · skip
        refine lv_aload_n hx hb d_R_skipBlanks_11 rfl (lv_at hl 0 rfl) ?_
        refine va_get (D := gD G) (ci := 1) (v := .ref (h 1)) (C := "WordShapes$Reader") (T := TR) (N := 8) hx hb hg iw_R hown hK hP 0 rfl rfl 0 (by decide) (hg _ tk_86) (fun _ h9 => h9) rfl d_R_skipBlanks_12 ?_
        refine lv_aload_n hx hb d_R_skipBlanks_15 rfl (lv_at hl 0 rfl) ?_
        refine va_get (D := gD G) (ci := 1) (v := .int (nI q)) (C := "WordShapes$Reader") (T := TR) (N := 8) hx hb hg iw_R hown hK hP 0 rfl rfl 5 (by decide) (hg _ tk_92) (fun _ h9 => h9) rfl d_R_skipBlanks_16 ?_
        refine yn_bald hx hb hK hP 1 1 rfl rfl (j := q) (x := sb_b (t q)) (rfl) (by omega) (by omega) d_R_skipBlanks_19 ?_
        refine y_call (y_runS (As := [.int (sb_b (t q))]) (rest := []) hx hb hml hown (c_R_isBlank l G  (sb_b (t q)) ) (gS (n := 1) hg tk_337 tk_338 tk_4 tk_339 (by decide +kernel) ⟨Nat.le_of_ble_eq_true rfl, Nat.le_of_ble_eq_true rfl⟩) (y_pre hE hK hP hD hS hA [] rfl rfl) rfl rfl hl.1 rfl (lv_room (Nat.le_of_ble_eq_true rfl)) d_R_skipBlanks_20 ⟨Nat.le_of_ble_eq_true rfl, Nat.le_of_ble_eq_true rfl⟩) hP hD hS hA [] rfl (fun _ _ _ _ _ _ hp => False.elim hp) (fun v w H locs hp hlw hP hD hS => ?_)
        obtain ⟨rfl, rfl⟩ := hp
        have hP : va_P (gD G) vwC (wR G h dg n q fk fp t np no k c f o bt bk bn) H := hP
        have hD : va_D A (wR G h dg n q fk fp t np no k c f o bt bk bn) := hD
        refine W.eq (g2 := F0 mm 23 ls [.int (bz (isBl (sb_b (t q))))]) rfl ?_
        refine yy_if_eq (P := isBl (sb_b (t q))) (tgt := 39) hx hb d_R_skipBlanks_23 (by decide) (fun c23 => ?_) (fun c23 => ?_)
        · skip
          have e9 : q = rn blN t n p := by rw [← hq3]; exact (rn_stop (fun z => by first | omega | (rw [← (ch_b _ (ht q)).1] at z; rw [c23] at z; exact absurd z.2 (by decide)))).symm
          rw [e9] at hP hD
          exact yr_v (ws := wR G h dg n (rn blN t n p) fk fp t np no k c f o bt bk bn) hx hb hrt hlocks (⟨rfl, rfl⟩) rfl hK hP hD hS d_R_skipBlanks_39
        · skip
          refine lv_aload_n hx hb d_R_skipBlanks_26 rfl (lv_at hl 0 rfl) ?_
          refine lv_dup hx hb d_R_skipBlanks_27 rfl ?_
          refine va_get (D := gD G) (ci := 1) (v := .int (nI q)) (C := "WordShapes$Reader") (T := TR) (N := 8) hx hb hg iw_R hown hK hP 0 rfl rfl 5 (by decide) (hg _ tk_92) (fun _ h9 => h9) rfl d_R_skipBlanks_28 ?_
          refine lv_iconst (v := nI 1) hx hb d_R_skipBlanks_31 (by decide) ?_
          refine lv_iadd hx hb d_R_skipBlanks_32 ?_
          refine y_eqi (nI_add _ _) ?_
          refine va_put (D := gD G) (ci := 1) (v := .int (nI (q + 1))) (ty := .int) (C := "WordShapes$Reader") (T := TR) (N := 8) hx hb hg iw_R ft_R fo_R nm_R hown hK hP hD hS 0 rfl rfl 5 (by decide) (hg _ tk_92) (fun _ h9 => h9) rfl (by decide +kernel) (rfl) (rfl) (Nat.le_of_ble_eq_true rfl) d_R_skipBlanks_33 (fun H locs hP hD hS => ?_)
          have hP : va_P (gD G) vwC (wR G h dg n (q + 1) fk fp t np no k c f o bt bk bn) H := hP
          have hD : va_D A (wR G h dg n (q + 1) fk fp t np no k c f o bt bk bn) := hD
          refine lv_goto (tgt := 0) hx hb d_R_skipBlanks_36 (by decide) ?_
          exact ih9 (q + 1) (by omega) (by omega) (by omega) ((rn_step (by omega) (by rw [← (ch_b _ (ht q)).1]; exact c23)).symm.trans hq3) _ _ _ hP hD hS (lv_sub hl [0] (rfl))
  exact J0 _ p (Nat.lt_succ_self _) (by omega) (by omega) (rfl) _ _ _ hP hD hS (lv_sub hl [0] (rfl))
set_option maxHeartbeats 4000000 in
set_option maxRecDepth 100000 in
theorem c_R_passLetters (l : Launch) (G : gl) (h : Nat → Nat) (dg : Nat) (n : Nat) (p : Nat) (fk : Nat) (fp : Nat) (t : Nat → Nat) (np : Nat) (no : Nat) (k : Nat) (c : Nat) (f : Nat → Int32) (o : Nat → Int32) (bt : Nat) (bk : Nat → Int32) (bn : Nat → Int32)  (hn : n ≤ 65536) (hp : p ≤ n) (ht : ∀ i, t i < 256) : YC l G y_R_passLetters k_R_passLetters 1 (Option.none : Option FieldType) 1 20 [.ref (h 0)] (wR G h dg n p fk fp t np no k c f o bt bk bn) (fun v w => v = none ∧ w = wR G h dg n (rn leN t n p) fk fp t np no k c f o bt bk bn) (fun _ _ => False) := by
  refine yc_of (by decide) ?_
  intro pg ev sx mm bl mt cd A C0 hP hD
  obtain ⟨hx, hb, hrt, hml, hown, hg, hlocks, hxt, hE, hK, hA, hmn⟩ := C0
  have hS : va_S A sx.heap sx.heap [] := va_S.rf
  have hl := lv_entry ([.ref (h 0)]) (n := 1) (Nat.le_of_ble_eq_true rfl)
  rw [lg_entry_eq]
  generalize (lg_sl ([.ref (h 0)]) ++ List.replicate (1 - (lg_sl ([.ref (h 0)])).length) Slot.unset).toArray = ls at hl ⊢
  have hl : lv_has ls 1 [(0, .ref (h 0))] := hl
  obtain ⟨H, hH⟩ : ∃ H, H = sx.heap := ⟨_, rfl⟩
  rw [← hH] at hP
  have hS : va_S A sx.heap H [] := by rw [hH]; exact hS
  suffices h9 : W pg l ev (yR 1 20) sx mm _ bl mt cd H [] 0 0 (yMQ bl G A _ _ _ _ sx) (F0 mm 0 ls []) by rw [hH] at h9; exact h9
  obtain ⟨locs, hlo⟩ : ∃ locs : List Loc, locs = [] := ⟨_, rfl⟩
  rw [← hlo] at hS ⊢
  have J0 : ∀ (n9 : Nat) (q : Nat) (hm9 : n - q < n9) (hq1 : p ≤ q) (hq2 : q ≤ n) (hq3 : rn leN t n q = rn leN t n p) (H : Heap) (locs : List Loc) (ls : Array Slot), va_P (gD G) vwC (wR G h dg n q fk fp t np no k c f o bt bk bn) H → va_D A (wR G h dg n q fk fp t np no k c f o bt bk bn) → va_S A sx.heap H locs → lv_has ls 1 [(0, .ref (h 0))] → W pg l ev (yR 1 20) sx mm ([.ref (h 0)] : List Value).toArray bl mt cd H locs 0 0 (yMQ bl G A (wR G h dg n p fk fp t np no k c f o bt bk bn).length (fun v w => v = none ∧ w = wR G h dg n (rn leN t n p) fk fp t np no k c f o bt bk bn) (fun _ _ => False) ([.ref (h 0)] : List Value).toArray sx) (F0 mm 0 ls []) := by
    intro n9
    induction n9 with
    | zero => intro q hm9; exact absurd hm9 (Nat.not_lt_zero _)
    | succ n9 ih9 =>
      intro q hm9 hq1 hq2 hq3 H locs ls hP hD hS hl
      refine lv_aload_n hx hb d_R_passLetters_0 rfl (lv_at hl 0 rfl) ?_
      refine va_get (D := gD G) (ci := 1) (v := .int (nI q)) (C := "WordShapes$Reader") (T := TR) (N := 8) hx hb hg iw_R hown hK hP 0 rfl rfl 5 (by decide) (hg _ tk_92) (fun _ h9 => h9) rfl d_R_passLetters_1 ?_
      refine lv_aload_n hx hb d_R_passLetters_4 rfl (lv_at hl 0 rfl) ?_
      refine va_get (D := gD G) (ci := 1) (v := .int (nI n)) (C := "WordShapes$Reader") (T := TR) (N := 8) hx hb hg iw_R hown hK hP 0 rfl rfl 4 (by decide) (hg _ tk_91) (fun _ h9 => h9) rfl d_R_passLetters_5 ?_
      refine yn_icmp_ge (a := q) (b := n) (tgt := 39) hx hb d_R_passLetters_8 (by decide) (by omega) (by omega) (fun c8 => ?_) (fun c8 => ?_)
      · skip
        have e9 : q = rn leN t n p := by rw [← hq3]; exact (rn_stop (fun z => by first | omega | (rw [← (ch_b _ (ht q)).2.1] at z; rw [c23] at z; exact absurd z.2 (by decide)))).symm
        rw [e9] at hP hD
        exact yr_v (ws := wR G h dg n (rn leN t n p) fk fp t np no k c f o bt bk bn) hx hb hrt hlocks (⟨rfl, rfl⟩) rfl hK hP hD hS d_R_passLetters_39
      · skip
        refine lv_aload_n hx hb d_R_passLetters_11 rfl (lv_at hl 0 rfl) ?_
        refine va_get (D := gD G) (ci := 1) (v := .ref (h 1)) (C := "WordShapes$Reader") (T := TR) (N := 8) hx hb hg iw_R hown hK hP 0 rfl rfl 0 (by decide) (hg _ tk_86) (fun _ h9 => h9) rfl d_R_passLetters_12 ?_
        refine lv_aload_n hx hb d_R_passLetters_15 rfl (lv_at hl 0 rfl) ?_
        refine va_get (D := gD G) (ci := 1) (v := .int (nI q)) (C := "WordShapes$Reader") (T := TR) (N := 8) hx hb hg iw_R hown hK hP 0 rfl rfl 5 (by decide) (hg _ tk_92) (fun _ h9 => h9) rfl d_R_passLetters_16 ?_
        refine yn_bald hx hb hK hP 1 1 rfl rfl (j := q) (x := sb_b (t q)) (rfl) (by omega) (by omega) d_R_passLetters_19 ?_
        refine y_call (y_runS (As := [.int (sb_b (t q))]) (rest := []) hx hb hml hown (c_R_isLetter l G  (sb_b (t q)) ) (gS (n := 1) hg tk_360 tk_361 tk_4 tk_362 (by decide +kernel) ⟨Nat.le_of_ble_eq_true rfl, Nat.le_of_ble_eq_true rfl⟩) (y_pre hE hK hP hD hS hA [] rfl rfl) rfl rfl hl.1 rfl (lv_room (Nat.le_of_ble_eq_true rfl)) d_R_passLetters_20 ⟨Nat.le_of_ble_eq_true rfl, Nat.le_of_ble_eq_true rfl⟩) hP hD hS hA [] rfl (fun _ _ _ _ _ _ hp => False.elim hp) (fun v w H locs hp hlw hP hD hS => ?_)
        obtain ⟨rfl, rfl⟩ := hp
        have hP : va_P (gD G) vwC (wR G h dg n q fk fp t np no k c f o bt bk bn) H := hP
        have hD : va_D A (wR G h dg n q fk fp t np no k c f o bt bk bn) := hD
        refine W.eq (g2 := F0 mm 23 ls [.int (bz (isLe (sb_b (t q))))]) rfl ?_
        refine yy_if_eq (P := isLe (sb_b (t q))) (tgt := 39) hx hb d_R_passLetters_23 (by decide) (fun c23 => ?_) (fun c23 => ?_)
        · skip
          have e9 : q = rn leN t n p := by rw [← hq3]; exact (rn_stop (fun z => by first | omega | (rw [← (ch_b _ (ht q)).2.1] at z; rw [c23] at z; exact absurd z.2 (by decide)))).symm
          rw [e9] at hP hD
          exact yr_v (ws := wR G h dg n (rn leN t n p) fk fp t np no k c f o bt bk bn) hx hb hrt hlocks (⟨rfl, rfl⟩) rfl hK hP hD hS d_R_passLetters_39
        · skip
          refine lv_aload_n hx hb d_R_passLetters_26 rfl (lv_at hl 0 rfl) ?_
          refine lv_dup hx hb d_R_passLetters_27 rfl ?_
          refine va_get (D := gD G) (ci := 1) (v := .int (nI q)) (C := "WordShapes$Reader") (T := TR) (N := 8) hx hb hg iw_R hown hK hP 0 rfl rfl 5 (by decide) (hg _ tk_92) (fun _ h9 => h9) rfl d_R_passLetters_28 ?_
          refine lv_iconst (v := nI 1) hx hb d_R_passLetters_31 (by decide) ?_
          refine lv_iadd hx hb d_R_passLetters_32 ?_
          refine y_eqi (nI_add _ _) ?_
          refine va_put (D := gD G) (ci := 1) (v := .int (nI (q + 1))) (ty := .int) (C := "WordShapes$Reader") (T := TR) (N := 8) hx hb hg iw_R ft_R fo_R nm_R hown hK hP hD hS 0 rfl rfl 5 (by decide) (hg _ tk_92) (fun _ h9 => h9) rfl (by decide +kernel) (rfl) (rfl) (Nat.le_of_ble_eq_true rfl) d_R_passLetters_33 (fun H locs hP hD hS => ?_)
          have hP : va_P (gD G) vwC (wR G h dg n (q + 1) fk fp t np no k c f o bt bk bn) H := hP
          have hD : va_D A (wR G h dg n (q + 1) fk fp t np no k c f o bt bk bn) := hD
          refine lv_goto (tgt := 0) hx hb d_R_passLetters_36 (by decide) ?_
          exact ih9 (q + 1) (by omega) (by omega) (by omega) ((rn_step (by omega) (by rw [← (ch_b _ (ht q)).2.1]; exact c23)).symm.trans hq3) _ _ _ hP hD hS (lv_sub hl [0] (rfl))
  exact J0 _ p (Nat.lt_succ_self _) (by omega) (by omega) (rfl) _ _ _ hP hD hS (lv_sub hl [0] (rfl))
set_option maxHeartbeats 4000000 in
set_option maxRecDepth 100000 in
theorem c_R_passDigits (l : Launch) (G : gl) (h : Nat → Nat) (dg : Nat) (n : Nat) (p : Nat) (fk : Nat) (fp : Nat) (t : Nat → Nat) (np : Nat) (no : Nat) (k : Nat) (c : Nat) (f : Nat → Int32) (o : Nat → Int32) (bt : Nat) (bk : Nat → Int32) (bn : Nat → Int32)  (hn : n ≤ 65536) (hp : p ≤ n) (ht : ∀ i, t i < 256) : YC l G y_R_passDigits k_R_passDigits 2 (Option.some FieldType.int) 1 20 [.ref (h 0)] (wR G h dg n p fk fp t np no k c f o bt bk bn) (fun v w => v = some (.int (nI (rn diN t n p - p))) ∧ w = wR G h dg n (rn diN t n p) fk fp t np no k c f o bt bk bn) (fun _ _ => False) := by
  refine yc_of (by decide) ?_
  intro pg ev sx mm bl mt cd A C0 hP hD
  obtain ⟨hx, hb, hrt, hml, hown, hg, hlocks, hxt, hE, hK, hA, hmn⟩ := C0
  have hS : va_S A sx.heap sx.heap [] := va_S.rf
  have hl := lv_entry ([.ref (h 0)]) (n := 2) (Nat.le_of_ble_eq_true rfl)
  rw [lg_entry_eq]
  generalize (lg_sl ([.ref (h 0)]) ++ List.replicate (2 - (lg_sl ([.ref (h 0)])).length) Slot.unset).toArray = ls at hl ⊢
  have hl : lv_has ls 2 [(0, .ref (h 0))] := hl
  obtain ⟨H, hH⟩ : ∃ H, H = sx.heap := ⟨_, rfl⟩
  rw [← hH] at hP
  have hS : va_S A sx.heap H [] := by rw [hH]; exact hS
  suffices h9 : W pg l ev (yR 1 20) sx mm _ bl mt cd H [] 0 0 (yMQ bl G A _ _ _ _ sx) (F0 mm 0 ls []) by rw [hH] at h9; exact h9
  obtain ⟨locs, hlo⟩ : ∃ locs : List Loc, locs = [] := ⟨_, rfl⟩
  rw [← hlo] at hS ⊢
  have J5 : ∀ (n9 : Nat) (q : Nat) (hm9 : n - q < n9) (hq1 : p ≤ q) (hq2 : q ≤ n) (hq3 : rn diN t n q = rn diN t n p) (H : Heap) (locs : List Loc) (ls : Array Slot), va_P (gD G) vwC (wR G h dg n q fk fp t np no k c f o bt bk bn) H → va_D A (wR G h dg n q fk fp t np no k c f o bt bk bn) → va_S A sx.heap H locs → lv_has ls 2 [(0, .ref (h 0)), (1, .int (nI p))] → W pg l ev (yR 1 20) sx mm ([.ref (h 0)] : List Value).toArray bl mt cd H locs 0 0 (yMQ bl G A (wR G h dg n p fk fp t np no k c f o bt bk bn).length (fun v w => v = some (.int (nI (rn diN t n p - p))) ∧ w = wR G h dg n (rn diN t n p) fk fp t np no k c f o bt bk bn) (fun _ _ => False) ([.ref (h 0)] : List Value).toArray sx) (F0 mm 5 ls []) := by
    intro n9
    induction n9 with
    | zero => intro q hm9; exact absurd hm9 (Nat.not_lt_zero _)
    | succ n9 ih9 =>
      intro q hm9 hq1 hq2 hq3 H locs ls hP hD hS hl
      refine lv_aload_n hx hb d_R_passDigits_5 rfl (lv_at hl 0 rfl) ?_
      refine va_get (D := gD G) (ci := 1) (v := .int (nI q)) (C := "WordShapes$Reader") (T := TR) (N := 8) hx hb hg iw_R hown hK hP 0 rfl rfl 5 (by decide) (hg _ tk_92) (fun _ h9 => h9) rfl d_R_passDigits_6 ?_
      refine lv_aload_n hx hb d_R_passDigits_9 rfl (lv_at hl 0 rfl) ?_
      refine va_get (D := gD G) (ci := 1) (v := .int (nI n)) (C := "WordShapes$Reader") (T := TR) (N := 8) hx hb hg iw_R hown hK hP 0 rfl rfl 4 (by decide) (hg _ tk_91) (fun _ h9 => h9) rfl d_R_passDigits_10 ?_
      refine yn_icmp_ge (a := q) (b := n) (tgt := 44) hx hb d_R_passDigits_13 (by decide) (by omega) (by omega) (fun c13 => ?_) (fun c13 => ?_)
      · skip
        refine lv_aload_n hx hb d_R_passDigits_44 rfl (lv_at hl 0 rfl) ?_
        refine va_get (D := gD G) (ci := 1) (v := .int (nI q)) (C := "WordShapes$Reader") (T := TR) (N := 8) hx hb hg iw_R hown hK hP 0 rfl rfl 5 (by decide) (hg _ tk_92) (fun _ h9 => h9) rfl d_R_passDigits_45 ?_
        refine lv_iload_n hx hb d_R_passDigits_48 rfl (lv_at hl 1 rfl) ?_
        refine lv_isub hx hb d_R_passDigits_49 ?_
        refine y_eqi (pk_sub (by omega)) ?_
        have e9 : q = rn diN t n p := by rw [← hq3]; exact (rn_stop (fun z => by first | omega | (rw [← (ch_b _ (ht q)).2.2.1] at z; rw [c28] at z; exact absurd z.2 (by decide)))).symm
        rw [e9] at hP hD ⊢
        exact yr_i (ws := wR G h dg n (rn diN t n p) fk fp t np no k c f o bt bk bn) hx hb hrt hlocks (⟨rfl, rfl⟩) rfl hK hP hD hS d_R_passDigits_50
      · skip
        refine lv_aload_n hx hb d_R_passDigits_16 rfl (lv_at hl 0 rfl) ?_
        refine va_get (D := gD G) (ci := 1) (v := .ref (h 1)) (C := "WordShapes$Reader") (T := TR) (N := 8) hx hb hg iw_R hown hK hP 0 rfl rfl 0 (by decide) (hg _ tk_86) (fun _ h9 => h9) rfl d_R_passDigits_17 ?_
        refine lv_aload_n hx hb d_R_passDigits_20 rfl (lv_at hl 0 rfl) ?_
        refine va_get (D := gD G) (ci := 1) (v := .int (nI q)) (C := "WordShapes$Reader") (T := TR) (N := 8) hx hb hg iw_R hown hK hP 0 rfl rfl 5 (by decide) (hg _ tk_92) (fun _ h9 => h9) rfl d_R_passDigits_21 ?_
        refine yn_bald hx hb hK hP 1 1 rfl rfl (j := q) (x := sb_b (t q)) (rfl) (by omega) (by omega) d_R_passDigits_24 ?_
        refine y_call (y_runS (As := [.int (sb_b (t q))]) (rest := []) hx hb hml hown (c_R_isDigit l G  (sb_b (t q)) ) (gS (n := 1) hg tk_496 tk_497 tk_4 tk_498 (by decide +kernel) ⟨Nat.le_of_ble_eq_true rfl, Nat.le_of_ble_eq_true rfl⟩) (y_pre hE hK hP hD hS hA [] rfl rfl) rfl rfl hl.1 rfl (lv_room (Nat.le_of_ble_eq_true rfl)) d_R_passDigits_25 ⟨Nat.le_of_ble_eq_true rfl, Nat.le_of_ble_eq_true rfl⟩) hP hD hS hA [] rfl (fun _ _ _ _ _ _ hp => False.elim hp) (fun v w H locs hp hlw hP hD hS => ?_)
        obtain ⟨rfl, rfl⟩ := hp
        have hP : va_P (gD G) vwC (wR G h dg n q fk fp t np no k c f o bt bk bn) H := hP
        have hD : va_D A (wR G h dg n q fk fp t np no k c f o bt bk bn) := hD
        refine W.eq (g2 := F0 mm 28 ls [.int (bz (isDi (sb_b (t q))))]) rfl ?_
        refine yy_if_eq (P := isDi (sb_b (t q))) (tgt := 44) hx hb d_R_passDigits_28 (by decide) (fun c28 => ?_) (fun c28 => ?_)
        · skip
          refine lv_aload_n hx hb d_R_passDigits_44 rfl (lv_at hl 0 rfl) ?_
          refine va_get (D := gD G) (ci := 1) (v := .int (nI q)) (C := "WordShapes$Reader") (T := TR) (N := 8) hx hb hg iw_R hown hK hP 0 rfl rfl 5 (by decide) (hg _ tk_92) (fun _ h9 => h9) rfl d_R_passDigits_45 ?_
          refine lv_iload_n hx hb d_R_passDigits_48 rfl (lv_at hl 1 rfl) ?_
          refine lv_isub hx hb d_R_passDigits_49 ?_
          refine y_eqi (pk_sub (by omega)) ?_
          have e9 : q = rn diN t n p := by rw [← hq3]; exact (rn_stop (fun z => by first | omega | (rw [← (ch_b _ (ht q)).2.2.1] at z; rw [c28] at z; exact absurd z.2 (by decide)))).symm
          rw [e9] at hP hD ⊢
          exact yr_i (ws := wR G h dg n (rn diN t n p) fk fp t np no k c f o bt bk bn) hx hb hrt hlocks (⟨rfl, rfl⟩) rfl hK hP hD hS d_R_passDigits_50
        · skip
          refine lv_aload_n hx hb d_R_passDigits_31 rfl (lv_at hl 0 rfl) ?_
          refine lv_dup hx hb d_R_passDigits_32 rfl ?_
          refine va_get (D := gD G) (ci := 1) (v := .int (nI q)) (C := "WordShapes$Reader") (T := TR) (N := 8) hx hb hg iw_R hown hK hP 0 rfl rfl 5 (by decide) (hg _ tk_92) (fun _ h9 => h9) rfl d_R_passDigits_33 ?_
          refine lv_iconst (v := nI 1) hx hb d_R_passDigits_36 (by decide) ?_
          refine lv_iadd hx hb d_R_passDigits_37 ?_
          refine y_eqi (nI_add _ _) ?_
          refine va_put (D := gD G) (ci := 1) (v := .int (nI (q + 1))) (ty := .int) (C := "WordShapes$Reader") (T := TR) (N := 8) hx hb hg iw_R ft_R fo_R nm_R hown hK hP hD hS 0 rfl rfl 5 (by decide) (hg _ tk_92) (fun _ h9 => h9) rfl (by decide +kernel) (rfl) (rfl) (Nat.le_of_ble_eq_true rfl) d_R_passDigits_38 (fun H locs hP hD hS => ?_)
          have hP : va_P (gD G) vwC (wR G h dg n (q + 1) fk fp t np no k c f o bt bk bn) H := hP
          have hD : va_D A (wR G h dg n (q + 1) fk fp t np no k c f o bt bk bn) := hD
          refine lv_goto (tgt := 5) hx hb d_R_passDigits_41 (by decide) ?_
          exact ih9 (q + 1) (by omega) (by omega) (by omega) ((rn_step (by omega) (by rw [← (ch_b _ (ht q)).2.2.1]; exact c28)).symm.trans hq3) _ _ _ hP hD hS (lv_sub hl [0, 1] (rfl))
  refine lv_aload_n hx hb d_R_passDigits_0 rfl (lv_at hl 0 rfl) ?_
  refine va_get (D := gD G) (ci := 1) (v := .int (nI p)) (C := "WordShapes$Reader") (T := TR) (N := 8) hx hb hg iw_R hown hK hP 0 rfl rfl 5 (by decide) (hg _ tk_92) (fun _ h9 => h9) rfl d_R_passDigits_1 ?_
  refine lv_istore_n (lv' := [(1, .int (nI p)), (0, .ref (h 0))]) hx hb d_R_passDigits_4 rfl hl (by decide) rfl (fun ls hl => ?_)
  exact J5 _ p (Nat.lt_succ_self _) (by omega) (by omega) (rfl) _ _ _ hP hD hS (lv_sub hl [1, 0] (rfl))
set_option maxHeartbeats 4000000 in
set_option maxRecDepth 100000 in
theorem c_R_passSign (l : Launch) (G : gl) (h : Nat → Nat) (dg : Nat) (n : Nat) (p : Nat) (fk : Nat) (fp : Nat) (t : Nat → Nat) (np : Nat) (no : Nat) (k : Nat) (c : Nat) (f : Nat → Int32) (o : Nat → Int32) (bt : Nat) (bk : Nat → Int32) (bn : Nat → Int32)  (hn : n ≤ 65536) (hp : p ≤ n) (ht : ∀ i, t i < 256) : YC l G y_R_passSign k_R_passSign 1 (Option.none : Option FieldType) 0 0 [.ref (h 0)] (wR G h dg n p fk fp t np no k c f o bt bk bn) (fun v w => v = none ∧ w = wR G h dg n (ps t n p) fk fp t np no k c f o bt bk bn) (fun _ _ => False) := by
  refine yc_of (by decide) ?_
  intro pg ev sx mm bl mt cd A C0 hP hD
  obtain ⟨hx, hb, hrt, hml, hown, hg, hlocks, hxt, hE, hK, hA, hmn⟩ := C0
  have hS : va_S A sx.heap sx.heap [] := va_S.rf
  have hl := lv_entry ([.ref (h 0)]) (n := 1) (Nat.le_of_ble_eq_true rfl)
  rw [lg_entry_eq]
  generalize (lg_sl ([.ref (h 0)]) ++ List.replicate (1 - (lg_sl ([.ref (h 0)])).length) Slot.unset).toArray = ls at hl ⊢
  have hl : lv_has ls 1 [(0, .ref (h 0))] := hl
  obtain ⟨H, hH⟩ : ∃ H, H = sx.heap := ⟨_, rfl⟩
  rw [← hH] at hP
  have hS : va_S A sx.heap H [] := by rw [hH]; exact hS
  suffices h9 : W pg l ev (yR 0 0) sx mm _ bl mt cd H [] 0 0 (yMQ bl G A _ _ _ _ sx) (F0 mm 0 ls []) by rw [hH] at h9; exact h9
  obtain ⟨locs, hlo⟩ : ∃ locs : List Loc, locs = [] := ⟨_, rfl⟩
  rw [← hlo] at hS ⊢
  refine lv_aload_n hx hb d_R_passSign_0 rfl (lv_at hl 0 rfl) ?_
  refine va_get (D := gD G) (ci := 1) (v := .int (nI p)) (C := "WordShapes$Reader") (T := TR) (N := 8) hx hb hg iw_R hown hK hP 0 rfl rfl 5 (by decide) (hg _ tk_92) (fun _ h9 => h9) rfl d_R_passSign_1 ?_
  refine lv_aload_n hx hb d_R_passSign_4 rfl (lv_at hl 0 rfl) ?_
  refine va_get (D := gD G) (ci := 1) (v := .int (nI n)) (C := "WordShapes$Reader") (T := TR) (N := 8) hx hb hg iw_R hown hK hP 0 rfl rfl 4 (by decide) (hg _ tk_91) (fun _ h9 => h9) rfl d_R_passSign_5 ?_
  refine yn_icmp_ge (a := p) (b := n) (tgt := 49) hx hb d_R_passSign_8 (by decide) (by omega) (by omega) (fun c8 => ?_) (fun c8 => ?_)
  · skip
    exact yr_v (ws := wR G h dg n p fk fp t np no k c f o bt bk bn) hx hb hrt hlocks (⟨rfl, by unfold ps sgN hr; first | (rw [if_pos c8, if_pos (decide_eq_true (Or.inl c22))]) | (rw [if_pos c8, if_pos (decide_eq_true (Or.inr c36))]) | (rw [if_neg (Nat.not_lt.mpr c8)]; rfl) | (rw [if_pos c8, if_neg (by rw [decide_eq_false (fun z => z.elim c22 c36)]; decide)])⟩) rfl hK hP hD hS d_R_passSign_49
  · skip
    refine lv_aload_n hx hb d_R_passSign_11 rfl (lv_at hl 0 rfl) ?_
    refine va_get (D := gD G) (ci := 1) (v := .ref (h 1)) (C := "WordShapes$Reader") (T := TR) (N := 8) hx hb hg iw_R hown hK hP 0 rfl rfl 0 (by decide) (hg _ tk_86) (fun _ h9 => h9) rfl d_R_passSign_12 ?_
    refine lv_aload_n hx hb d_R_passSign_15 rfl (lv_at hl 0 rfl) ?_
    refine va_get (D := gD G) (ci := 1) (v := .int (nI p)) (C := "WordShapes$Reader") (T := TR) (N := 8) hx hb hg iw_R hown hK hP 0 rfl rfl 5 (by decide) (hg _ tk_92) (fun _ h9 => h9) rfl d_R_passSign_16 ?_
    refine yn_bald hx hb hK hP 1 1 rfl rfl (j := p) (x := sb_b (t p)) (rfl) (by omega) (by omega) d_R_passSign_19 ?_
    refine lv_bipush (v := nI 43) hx hb d_R_passSign_20 (by decide) ?_
    refine yb_icmp_eq (a := t p) (b := 43) (tgt := 39) hx hb d_R_passSign_22 (by decide) (ht _) (by omega) (fun c22 => ?_) (fun c22 => ?_)
    · skip
      refine lv_aload_n hx hb d_R_passSign_39 rfl (lv_at hl 0 rfl) ?_
      refine lv_dup hx hb d_R_passSign_40 rfl ?_
      refine va_get (D := gD G) (ci := 1) (v := .int (nI p)) (C := "WordShapes$Reader") (T := TR) (N := 8) hx hb hg iw_R hown hK hP 0 rfl rfl 5 (by decide) (hg _ tk_92) (fun _ h9 => h9) rfl d_R_passSign_41 ?_
      refine lv_iconst (v := nI 1) hx hb d_R_passSign_44 (by decide) ?_
      refine lv_iadd hx hb d_R_passSign_45 ?_
      refine y_eqi (nI_add _ _) ?_
      refine va_put (D := gD G) (ci := 1) (v := .int (nI (p + 1))) (ty := .int) (C := "WordShapes$Reader") (T := TR) (N := 8) hx hb hg iw_R ft_R fo_R nm_R hown hK hP hD hS 0 rfl rfl 5 (by decide) (hg _ tk_92) (fun _ h9 => h9) rfl (by decide +kernel) (rfl) (rfl) (Nat.le_of_ble_eq_true rfl) d_R_passSign_46 (fun H locs hP hD hS => ?_)
      have hP : va_P (gD G) vwC (wR G h dg n (p + 1) fk fp t np no k c f o bt bk bn) H := hP
      have hD : va_D A (wR G h dg n (p + 1) fk fp t np no k c f o bt bk bn) := hD
      exact yr_v (ws := wR G h dg n (p + 1) fk fp t np no k c f o bt bk bn) hx hb hrt hlocks (⟨rfl, by unfold ps sgN hr; first | (rw [if_pos c8, if_pos (decide_eq_true (Or.inl c22))]) | (rw [if_pos c8, if_pos (decide_eq_true (Or.inr c36))]) | (rw [if_neg (Nat.not_lt.mpr c8)]; rfl) | (rw [if_pos c8, if_neg (by rw [decide_eq_false (fun z => z.elim c22 c36)]; decide)])⟩) rfl hK hP hD hS d_R_passSign_49
    · skip
      refine lv_aload_n hx hb d_R_passSign_25 rfl (lv_at hl 0 rfl) ?_
      refine va_get (D := gD G) (ci := 1) (v := .ref (h 1)) (C := "WordShapes$Reader") (T := TR) (N := 8) hx hb hg iw_R hown hK hP 0 rfl rfl 0 (by decide) (hg _ tk_86) (fun _ h9 => h9) rfl d_R_passSign_26 ?_
      refine lv_aload_n hx hb d_R_passSign_29 rfl (lv_at hl 0 rfl) ?_
      refine va_get (D := gD G) (ci := 1) (v := .int (nI p)) (C := "WordShapes$Reader") (T := TR) (N := 8) hx hb hg iw_R hown hK hP 0 rfl rfl 5 (by decide) (hg _ tk_92) (fun _ h9 => h9) rfl d_R_passSign_30 ?_
      refine yn_bald hx hb hK hP 1 1 rfl rfl (j := p) (x := sb_b (t p)) (rfl) (by omega) (by omega) d_R_passSign_33 ?_
      refine lv_bipush (v := nI 45) hx hb d_R_passSign_34 (by decide) ?_
      refine yb_icmp_ne (a := t p) (b := 45) (tgt := 49) hx hb d_R_passSign_36 (by decide) (ht _) (by omega) (fun c36 => ?_) (fun c36 => ?_)
      · skip
        exact yr_v (ws := wR G h dg n p fk fp t np no k c f o bt bk bn) hx hb hrt hlocks (⟨rfl, by unfold ps sgN hr; first | (rw [if_pos c8, if_pos (decide_eq_true (Or.inl c22))]) | (rw [if_pos c8, if_pos (decide_eq_true (Or.inr c36))]) | (rw [if_neg (Nat.not_lt.mpr c8)]; rfl) | (rw [if_pos c8, if_neg (by rw [decide_eq_false (fun z => z.elim c22 c36)]; decide)])⟩) rfl hK hP hD hS d_R_passSign_49
      · skip
        refine lv_aload_n hx hb d_R_passSign_39 rfl (lv_at hl 0 rfl) ?_
        refine lv_dup hx hb d_R_passSign_40 rfl ?_
        refine va_get (D := gD G) (ci := 1) (v := .int (nI p)) (C := "WordShapes$Reader") (T := TR) (N := 8) hx hb hg iw_R hown hK hP 0 rfl rfl 5 (by decide) (hg _ tk_92) (fun _ h9 => h9) rfl d_R_passSign_41 ?_
        refine lv_iconst (v := nI 1) hx hb d_R_passSign_44 (by decide) ?_
        refine lv_iadd hx hb d_R_passSign_45 ?_
        refine y_eqi (nI_add _ _) ?_
        refine va_put (D := gD G) (ci := 1) (v := .int (nI (p + 1))) (ty := .int) (C := "WordShapes$Reader") (T := TR) (N := 8) hx hb hg iw_R ft_R fo_R nm_R hown hK hP hD hS 0 rfl rfl 5 (by decide) (hg _ tk_92) (fun _ h9 => h9) rfl (by decide +kernel) (rfl) (rfl) (Nat.le_of_ble_eq_true rfl) d_R_passSign_46 (fun H locs hP hD hS => ?_)
        have hP : va_P (gD G) vwC (wR G h dg n (p + 1) fk fp t np no k c f o bt bk bn) H := hP
        have hD : va_D A (wR G h dg n (p + 1) fk fp t np no k c f o bt bk bn) := hD
        exact yr_v (ws := wR G h dg n (p + 1) fk fp t np no k c f o bt bk bn) hx hb hrt hlocks (⟨rfl, by unfold ps sgN hr; first | (rw [if_pos c8, if_pos (decide_eq_true (Or.inl c22))]) | (rw [if_pos c8, if_pos (decide_eq_true (Or.inr c36))]) | (rw [if_neg (Nat.not_lt.mpr c8)]; rfl) | (rw [if_pos c8, if_neg (by rw [decide_eq_false (fun z => z.elim c22 c36)]; decide)])⟩) rfl hK hP hD hS d_R_passSign_49
set_option maxHeartbeats 4000000 in
set_option maxRecDepth 100000 in
theorem c_R_fail {l : Launch} (hlt : l.stackTraces = false) (G : gl) (h : Nat → Nat) (dg : Nat) (n : Nat) (p : Nat) (fk : Nat) (fp : Nat) (t : Nat → Nat) (np : Nat) (no : Nat) (k : Nat) (c : Nat) (f : Nat → Int32) (o : Nat → Int32) (bt : Nat) (bk : Nat → Int32) (bn : Nat → Int32) (a : Nat) (b : Nat)  : YC l G y_R_fail k_R_fail 3 (Option.none : Option FieldType) 6 90 [.ref (h 0), .int (nI a), .int (nI b)] (wR G h dg n p fk fp t np no k c f o bt bk bn) (fun _ _ => False) (fun E w => E = "java/lang/IllegalArgumentException" ∧ w = wR G h dg n p a b t np no k c f o bt bk bn) := by
  refine yc_of (by decide) ?_
  intro pg ev sx mm bl mt cd A C0 hP hD
  obtain ⟨hx, hb, hrt, hml, hown, hg, hlocks, hxt, hE, hK, hA, hmn⟩ := C0
  have hS : va_S A sx.heap sx.heap [] := va_S.rf
  have hl := lv_entry ([.ref (h 0), .int (nI a), .int (nI b)]) (n := 3) (Nat.le_of_ble_eq_true rfl)
  rw [lg_entry_eq]
  generalize (lg_sl ([.ref (h 0), .int (nI a), .int (nI b)]) ++ List.replicate (3 - (lg_sl ([.ref (h 0), .int (nI a), .int (nI b)])).length) Slot.unset).toArray = ls at hl ⊢
  have hl : lv_has ls 3 [(0, .ref (h 0)), (1, .int (nI a)), (2, .int (nI b))] := hl
  obtain ⟨H, hH⟩ : ∃ H, H = sx.heap := ⟨_, rfl⟩
  rw [← hH] at hP
  have hS : va_S A sx.heap H [] := by rw [hH]; exact hS
  suffices h9 : W pg l ev (yR 6 90) sx mm _ bl mt cd H [] 0 0 (yMQ bl G A _ _ _ _ sx) (F0 mm 0 ls []) by rw [hH] at h9; exact h9
  obtain ⟨locs, hlo⟩ : ∃ locs : List Loc, locs = [] := ⟨_, rfl⟩
  rw [← hlo] at hS ⊢
  refine lv_aload_n hx hb d_R_fail_0 rfl (lv_at hl 0 rfl) ?_
  refine lv_iload_n hx hb d_R_fail_1 rfl (lv_at hl 1 rfl) ?_
  refine va_put (D := gD G) (ci := 1) (v := .int (nI a)) (ty := .int) (C := "WordShapes$Reader") (T := TR) (N := 8) hx hb hg iw_R ft_R fo_R nm_R hown hK hP hD hS 0 rfl rfl 6 (by decide) (hg _ tk_93) (fun _ h9 => h9) rfl (by decide +kernel) (rfl) (rfl) (Nat.le_of_ble_eq_true rfl) d_R_fail_2 (fun H locs hP hD hS => ?_)
  have hP : va_P (gD G) vwC (wR G h dg n p a fp t np no k c f o bt bk bn) H := hP
  have hD : va_D A (wR G h dg n p a fp t np no k c f o bt bk bn) := hD
  refine lv_aload_n hx hb d_R_fail_5 rfl (lv_at hl 0 rfl) ?_
  refine lv_iload_n hx hb d_R_fail_6 rfl (lv_at hl 2 rfl) ?_
  refine va_put (D := gD G) (ci := 1) (v := .int (nI b)) (ty := .int) (C := "WordShapes$Reader") (T := TR) (N := 8) hx hb hg iw_R ft_R fo_R nm_R hown hK hP hD hS 0 rfl rfl 7 (by decide) (hg _ tk_95) (fun _ h9 => h9) rfl (by decide +kernel) (rfl) (rfl) (Nat.le_of_ble_eq_true rfl) d_R_fail_7 (fun H locs hP hD hS => ?_)
  have hP : va_P (gD G) vwC (wR G h dg n p a b t np no k c f o bt bk bn) H := hP
  have hD : va_D A (wR G h dg n p a b t np no k c f o bt bk bn) := hD
  exact yt_S (ws := wR G h dg n p a b t np no k c f o bt bk bn) hx hb hlt hown xo_R_194_198 (nw_272 hE.1) (sr_375 hE.2.1) hg hE hK hP hD hS hA hml hl.1 hxt hlocks d_R_fail_10 d_R_fail_13 d_R_fail_14 d_R_fail_16 d_R_fail_19 (by decide) (by decide) (⟨rfl, rfl⟩) rfl
set_option maxHeartbeats 4000000 in
set_option maxRecDepth 100000 in
theorem c_R_failHere {l : Launch} (hlt : l.stackTraces = false) (G : gl) (h : Nat → Nat) (dg : Nat) (n : Nat) (p : Nat) (fk : Nat) (fp : Nat) (t : Nat → Nat) (np : Nat) (no : Nat) (k : Nat) (c : Nat) (f : Nat → Int32) (o : Nat → Int32) (bt : Nat) (bk : Nat → Int32) (bn : Nat → Int32)  (hn : n ≤ 65536) (hp : p ≤ n) (ht : ∀ i, t i < 256) : YC l G y_R_failHere k_R_failHere 3 (Option.none : Option FieldType) 7 112 [.ref (h 0)] (wR G h dg n p fk fp t np no k c f o bt bk bn) (fun _ _ => False) (fun E w => E = "java/lang/IllegalArgumentException" ∧ w = wR G h dg n p (uxp (hr t n p)) p t np no k c f o bt bk bn) := by
  refine yc_of (by decide) ?_
  intro pg ev sx mm bl mt cd A C0 hP hD
  obtain ⟨hx, hb, hrt, hml, hown, hg, hlocks, hxt, hE, hK, hA, hmn⟩ := C0
  have hS : va_S A sx.heap sx.heap [] := va_S.rf
  have hl := lv_entry ([.ref (h 0)]) (n := 3) (Nat.le_of_ble_eq_true rfl)
  rw [lg_entry_eq]
  generalize (lg_sl ([.ref (h 0)]) ++ List.replicate (3 - (lg_sl ([.ref (h 0)])).length) Slot.unset).toArray = ls at hl ⊢
  have hl : lv_has ls 3 [(0, .ref (h 0))] := hl
  obtain ⟨H, hH⟩ : ∃ H, H = sx.heap := ⟨_, rfl⟩
  rw [← hH] at hP
  have hS : va_S A sx.heap H [] := by rw [hH]; exact hS
  suffices h9 : W pg l ev (yR 7 112) sx mm _ bl mt cd H [] 0 0 (yMQ bl G A _ _ _ _ sx) (F0 mm 0 ls []) by rw [hH] at h9; exact h9
  obtain ⟨locs, hlo⟩ : ∃ locs : List Loc, locs = [] := ⟨_, rfl⟩
  rw [← hlo] at hS ⊢
  have J42 : ∀ (z : Bool) (hz : z = decide (leN (hr t n p) = true ∨ nuN (hr t n p) = true ∨ hr t n p = 40 ∨ hr t n p = 41 ∨ hr t n p = 44)) (H : Heap) (locs : List Loc) (ls : Array Slot), va_P (gD G) vwC (wR G h dg n p fk fp t np no k c f o bt bk bn) H → va_D A (wR G h dg n p fk fp t np no k c f o bt bk bn) → va_S A sx.heap H locs → lv_has ls 3 [(0, .ref (h 0)), (1, .int (toI (hr t n p)))] → W pg l ev (yR 7 112) sx mm ([.ref (h 0)] : List Value).toArray bl mt cd H locs 0 0 (yMQ bl G A (wR G h dg n p fk fp t np no k c f o bt bk bn).length (fun _ _ => False) (fun E w => E = "java/lang/IllegalArgumentException" ∧ w = wR G h dg n p (uxp (hr t n p)) p t np no k c f o bt bk bn) ([.ref (h 0)] : List Value).toArray sx) (F0 mm 42 ls [.int (bz z)]) := by
    intro z hz H locs ls hP hD hS hl
    refine lv_istore_n (lv' := [(2, .int (bz z)), (0, .ref (h 0)), (1, .int (toI (hr t n p)))]) hx hb d_R_failHere_42 rfl hl (by decide) rfl (fun ls hl => ?_)
    refine lv_aload_n hx hb d_R_failHere_43 rfl (lv_at hl 1 rfl) ?_
    refine lv_iload_n hx hb d_R_failHere_44 rfl (lv_at hl 2 rfl) ?_
    refine lv_iconst (v := (-1)) hx hb d_R_failHere_45 (by decide) ?_
    refine ye_icmp_eq (a := hr t n p) (tgt := 53) hx hb d_R_failHere_46 (by decide) (hr_le ht _ _) (fun c46 => ?_) (fun c46 => ?_)
    · skip
      refine lv_iconst (v := nI 3) hx hb d_R_failHere_53 (by decide) ?_
      refine lv_goto (tgt := 58) hx hb d_R_failHere_54 (by decide) ?_
      refine lv_aload_n hx hb d_R_failHere_58 rfl (lv_at hl 1 rfl) ?_
      refine va_get (D := gD G) (ci := 1) (v := .int (nI p)) (C := "WordShapes$Reader") (T := TR) (N := 8) hx hb hg iw_R hown hK hP 0 rfl rfl 5 (by decide) (hg _ tk_92) (fun _ h9 => h9) rfl d_R_failHere_59 ?_
      refine y_call (y_runV (As := [.int (nI 3), .int (nI p)]) (rest := []) hx hb hml hown (c_R_fail hlt G h dg n p fk fp t np no k c f o bt bk bn 3 p ) (gV (n := 2) hg tk_370 tk_372 (gt_s 8 (by decide +kernel) (by decide +kernel)) tk_4 tk_373 (by decide +kernel) ⟨Nat.le_of_ble_eq_true rfl, Nat.le_of_ble_eq_true rfl⟩) (va_recv hK hP (ci := 1) (q0 := 0) rfl rfl) (y_pre hE hK hP hD hS hA [0, 1, 2, 3, 4, 5, 6, 7] rfl rfl) rfl rfl hl.1 rfl (lv_room (Nat.le_of_ble_eq_true rfl)) d_R_failHere_62 ⟨Nat.le_of_ble_eq_true rfl, Nat.le_of_ble_eq_true rfl⟩) hP hD hS hA [0, 1, 2, 3, 4, 5, 6, 7] rfl (fun E w q ce H locs hp hlw hP hD hS hq1 hq2 hq3 => ?_) (fun _ _ _ _ hp => False.elim hp)
      · skip
        obtain ⟨rfl, rfl⟩ := hp
        have hP : va_P (gD G) vwC (wR G h dg n p 3 p t np no k c f o bt bk bn) H := hP
        have hD : va_D A (wR G h dg n p 3 p t np no k c f o bt bk bn) := hD
        exact y_out (ws := wR G h dg n p 3 p t np no k c f o bt bk bn) hxt hlocks hq1 hq2 hq3 (⟨rfl, by unfold uxp; first | rw [if_pos (Or.inl c46)] | (rw [hz] at c50; rw [if_pos (Or.inr (of_decide_eq_true c50))]) | (rw [hz] at c50; rw [if_neg (fun y => y.elim c46 (of_decide_eq_false c50))])⟩) rfl hK hP hD hS
    · skip
      refine lv_iload_n hx hb d_R_failHere_49 rfl (lv_at hl 0 rfl) ?_
      refine yy_if_eq (P := z) (tgt := 57) hx hb d_R_failHere_50 (by decide) (fun c50 => ?_) (fun c50 => ?_)
      · skip
        refine lv_iconst (v := nI 1) hx hb d_R_failHere_57 (by decide) ?_
        refine lv_aload_n hx hb d_R_failHere_58 rfl (lv_at hl 1 rfl) ?_
        refine va_get (D := gD G) (ci := 1) (v := .int (nI p)) (C := "WordShapes$Reader") (T := TR) (N := 8) hx hb hg iw_R hown hK hP 0 rfl rfl 5 (by decide) (hg _ tk_92) (fun _ h9 => h9) rfl d_R_failHere_59 ?_
        refine y_call (y_runV (As := [.int (nI 1), .int (nI p)]) (rest := []) hx hb hml hown (c_R_fail hlt G h dg n p fk fp t np no k c f o bt bk bn 1 p ) (gV (n := 2) hg tk_370 tk_372 (gt_s 8 (by decide +kernel) (by decide +kernel)) tk_4 tk_373 (by decide +kernel) ⟨Nat.le_of_ble_eq_true rfl, Nat.le_of_ble_eq_true rfl⟩) (va_recv hK hP (ci := 1) (q0 := 0) rfl rfl) (y_pre hE hK hP hD hS hA [0, 1, 2, 3, 4, 5, 6, 7] rfl rfl) rfl rfl hl.1 rfl (lv_room (Nat.le_of_ble_eq_true rfl)) d_R_failHere_62 ⟨Nat.le_of_ble_eq_true rfl, Nat.le_of_ble_eq_true rfl⟩) hP hD hS hA [0, 1, 2, 3, 4, 5, 6, 7] rfl (fun E w q ce H locs hp hlw hP hD hS hq1 hq2 hq3 => ?_) (fun _ _ _ _ hp => False.elim hp)
        · skip
          obtain ⟨rfl, rfl⟩ := hp
          have hP : va_P (gD G) vwC (wR G h dg n p 1 p t np no k c f o bt bk bn) H := hP
          have hD : va_D A (wR G h dg n p 1 p t np no k c f o bt bk bn) := hD
          exact y_out (ws := wR G h dg n p 1 p t np no k c f o bt bk bn) hxt hlocks hq1 hq2 hq3 (⟨rfl, by unfold uxp; first | rw [if_pos (Or.inl c46)] | (rw [hz] at c50; rw [if_pos (Or.inr (of_decide_eq_true c50))]) | (rw [hz] at c50; rw [if_neg (fun y => y.elim c46 (of_decide_eq_false c50))])⟩) rfl hK hP hD hS
      · skip
        refine lv_iconst (v := nI 3) hx hb d_R_failHere_53 (by decide) ?_
        refine lv_goto (tgt := 58) hx hb d_R_failHere_54 (by decide) ?_
        refine lv_aload_n hx hb d_R_failHere_58 rfl (lv_at hl 1 rfl) ?_
        refine va_get (D := gD G) (ci := 1) (v := .int (nI p)) (C := "WordShapes$Reader") (T := TR) (N := 8) hx hb hg iw_R hown hK hP 0 rfl rfl 5 (by decide) (hg _ tk_92) (fun _ h9 => h9) rfl d_R_failHere_59 ?_
        refine y_call (y_runV (As := [.int (nI 3), .int (nI p)]) (rest := []) hx hb hml hown (c_R_fail hlt G h dg n p fk fp t np no k c f o bt bk bn 3 p ) (gV (n := 2) hg tk_370 tk_372 (gt_s 8 (by decide +kernel) (by decide +kernel)) tk_4 tk_373 (by decide +kernel) ⟨Nat.le_of_ble_eq_true rfl, Nat.le_of_ble_eq_true rfl⟩) (va_recv hK hP (ci := 1) (q0 := 0) rfl rfl) (y_pre hE hK hP hD hS hA [0, 1, 2, 3, 4, 5, 6, 7] rfl rfl) rfl rfl hl.1 rfl (lv_room (Nat.le_of_ble_eq_true rfl)) d_R_failHere_62 ⟨Nat.le_of_ble_eq_true rfl, Nat.le_of_ble_eq_true rfl⟩) hP hD hS hA [0, 1, 2, 3, 4, 5, 6, 7] rfl (fun E w q ce H locs hp hlw hP hD hS hq1 hq2 hq3 => ?_) (fun _ _ _ _ hp => False.elim hp)
        · skip
          obtain ⟨rfl, rfl⟩ := hp
          have hP : va_P (gD G) vwC (wR G h dg n p 3 p t np no k c f o bt bk bn) H := hP
          have hD : va_D A (wR G h dg n p 3 p t np no k c f o bt bk bn) := hD
          exact y_out (ws := wR G h dg n p 3 p t np no k c f o bt bk bn) hxt hlocks hq1 hq2 hq3 (⟨rfl, by unfold uxp; first | rw [if_pos (Or.inl c46)] | (rw [hz] at c50; rw [if_pos (Or.inr (of_decide_eq_true c50))]) | (rw [hz] at c50; rw [if_neg (fun y => y.elim c46 (of_decide_eq_false c50))])⟩) rfl hK hP hD hS
  refine lv_aload_n hx hb d_R_failHere_0 rfl (lv_at hl 0 rfl) ?_
  refine y_call (y_runV (As := []) (rest := []) hx hb hml hown (c_R_here l G h dg n p fk fp t np no k c f o bt bk bn  (by omega) (by omega) (ht)) (gV (n := 0) hg tk_356 tk_358 (gt_s 6 (by decide +kernel) (by decide +kernel)) tk_4 tk_359 (by decide +kernel) ⟨Nat.le_of_ble_eq_true rfl, Nat.le_of_ble_eq_true rfl⟩) (va_recv hK hP (ci := 1) (q0 := 0) rfl rfl) (y_pre hE hK hP hD hS hA [0, 1, 2, 3, 4, 5, 6, 7] rfl rfl) rfl rfl hl.1 rfl (lv_room (Nat.le_of_ble_eq_true rfl)) d_R_failHere_1 ⟨Nat.le_of_ble_eq_true rfl, Nat.le_of_ble_eq_true rfl⟩) hP hD hS hA [0, 1, 2, 3, 4, 5, 6, 7] rfl (fun _ _ _ _ _ _ hp => False.elim hp) (fun v w H locs hp hlw hP hD hS => ?_)
  obtain ⟨rfl, rfl⟩ := hp
  have hP : va_P (gD G) vwC (wR G h dg n p fk fp t np no k c f o bt bk bn) H := hP
  have hD : va_D A (wR G h dg n p fk fp t np no k c f o bt bk bn) := hD
  refine W.eq (g2 := F0 mm 4 ls [.int (toI (hr t n p))]) rfl ?_
  refine lv_istore_n (lv' := [(1, .int (toI (hr t n p))), (0, .ref (h 0))]) hx hb d_R_failHere_4 rfl hl (by decide) rfl (fun ls hl => ?_)
  refine lv_iload_n hx hb d_R_failHere_5 rfl (lv_at hl 0 rfl) ?_
  refine y_call (y_runS (As := [.int (toI (hr t n p))]) (rest := []) hx hb hml hown (c_R_isLetter l G  (toI (hr t n p)) ) (gS (n := 1) hg tk_360 tk_361 tk_4 tk_362 (by decide +kernel) ⟨Nat.le_of_ble_eq_true rfl, Nat.le_of_ble_eq_true rfl⟩) (y_pre hE hK hP hD hS hA [] rfl rfl) rfl rfl hl.1 rfl (lv_room (Nat.le_of_ble_eq_true rfl)) d_R_failHere_6 ⟨Nat.le_of_ble_eq_true rfl, Nat.le_of_ble_eq_true rfl⟩) hP hD hS hA [] rfl (fun _ _ _ _ _ _ hp => False.elim hp) (fun v w H locs hp hlw hP hD hS => ?_)
  obtain ⟨rfl, rfl⟩ := hp
  have hP : va_P (gD G) vwC (wR G h dg n p fk fp t np no k c f o bt bk bn) H := hP
  have hD : va_D A (wR G h dg n p fk fp t np no k c f o bt bk bn) := hD
  refine W.eq (g2 := F0 mm 9 ls [.int (bz (isLe (toI (hr t n p))))]) rfl ?_
  refine yy_if_ne (P := isLe (toI (hr t n p))) (tgt := 37) hx hb d_R_failHere_9 (by decide) (fun c9 => ?_) (fun c9 => ?_)
  · skip
    refine lv_iconst (v := nI 1) hx hb d_R_failHere_37 (by decide) ?_
    refine lv_goto (tgt := 42) hx hb d_R_failHere_38 (by decide) ?_
    exact J42 true ((decide_eq_true (by first | exact Or.inl ((ch_h _ (Nat.lt_succ_of_le (hr_le ht _ _))).2.1.symm.trans c9) | exact Or.inr (Or.inl ((ch_h _ (Nat.lt_succ_of_le (hr_le ht _ _))).2.2.2.symm.trans c16)) | exact Or.inr (Or.inr (Or.inl (by assumption))) | exact Or.inr (Or.inr (Or.inr (Or.inl (by assumption)))) | exact Or.inr (Or.inr (Or.inr (Or.inr (by assumption)))))).symm) _ _ _ hP hD hS (lv_sub hl [1, 0] (rfl))
  · skip
    refine lv_iload_n hx hb d_R_failHere_12 rfl (lv_at hl 0 rfl) ?_
    refine y_call (y_runS (As := [.int (toI (hr t n p))]) (rest := []) hx hb hml hown (c_R_beginsNumber l G  (toI (hr t n p)) ) (gS (n := 1) hg tk_367 tk_368 tk_4 tk_369 (by decide +kernel) ⟨Nat.le_of_ble_eq_true rfl, Nat.le_of_ble_eq_true rfl⟩) (y_pre hE hK hP hD hS hA [] rfl rfl) rfl rfl hl.1 rfl (lv_room (Nat.le_of_ble_eq_true rfl)) d_R_failHere_13 ⟨Nat.le_of_ble_eq_true rfl, Nat.le_of_ble_eq_true rfl⟩) hP hD hS hA [] rfl (fun _ _ _ _ _ _ hp => False.elim hp) (fun v w H locs hp hlw hP hD hS => ?_)
    obtain ⟨rfl, rfl⟩ := hp
    have hP : va_P (gD G) vwC (wR G h dg n p fk fp t np no k c f o bt bk bn) H := hP
    have hD : va_D A (wR G h dg n p fk fp t np no k c f o bt bk bn) := hD
    refine W.eq (g2 := F0 mm 16 ls [.int (bz (isNu (toI (hr t n p))))]) rfl ?_
    refine yy_if_ne (P := isNu (toI (hr t n p))) (tgt := 37) hx hb d_R_failHere_16 (by decide) (fun c16 => ?_) (fun c16 => ?_)
    · skip
      refine lv_iconst (v := nI 1) hx hb d_R_failHere_37 (by decide) ?_
      refine lv_goto (tgt := 42) hx hb d_R_failHere_38 (by decide) ?_
      exact J42 true ((decide_eq_true (by first | exact Or.inl ((ch_h _ (Nat.lt_succ_of_le (hr_le ht _ _))).2.1.symm.trans c9) | exact Or.inr (Or.inl ((ch_h _ (Nat.lt_succ_of_le (hr_le ht _ _))).2.2.2.symm.trans c16)) | exact Or.inr (Or.inr (Or.inl (by assumption))) | exact Or.inr (Or.inr (Or.inr (Or.inl (by assumption)))) | exact Or.inr (Or.inr (Or.inr (Or.inr (by assumption)))))).symm) _ _ _ hP hD hS (lv_sub hl [1, 0] (rfl))
    · skip
      refine lv_iload_n hx hb d_R_failHere_19 rfl (lv_at hl 0 rfl) ?_
      refine lv_bipush (v := nI 40) hx hb d_R_failHere_20 (by decide) ?_
      refine yh_icmp_eq (a := hr t n p) (b := 40) (tgt := 37) hx hb d_R_failHere_22 (by decide) (hr_le ht _ _) (by omega) (fun c22 => ?_) (fun c22 => ?_)
      · skip
        refine lv_iconst (v := nI 1) hx hb d_R_failHere_37 (by decide) ?_
        refine lv_goto (tgt := 42) hx hb d_R_failHere_38 (by decide) ?_
        exact J42 true ((decide_eq_true (by first | exact Or.inl ((ch_h _ (Nat.lt_succ_of_le (hr_le ht _ _))).2.1.symm.trans c9) | exact Or.inr (Or.inl ((ch_h _ (Nat.lt_succ_of_le (hr_le ht _ _))).2.2.2.symm.trans c16)) | exact Or.inr (Or.inr (Or.inl (by assumption))) | exact Or.inr (Or.inr (Or.inr (Or.inl (by assumption)))) | exact Or.inr (Or.inr (Or.inr (Or.inr (by assumption)))))).symm) _ _ _ hP hD hS (lv_sub hl [1, 0] (rfl))
      · skip
        refine lv_iload_n hx hb d_R_failHere_25 rfl (lv_at hl 0 rfl) ?_
        refine lv_bipush (v := nI 41) hx hb d_R_failHere_26 (by decide) ?_
        refine yh_icmp_eq (a := hr t n p) (b := 41) (tgt := 37) hx hb d_R_failHere_28 (by decide) (hr_le ht _ _) (by omega) (fun c28 => ?_) (fun c28 => ?_)
        · skip
          refine lv_iconst (v := nI 1) hx hb d_R_failHere_37 (by decide) ?_
          refine lv_goto (tgt := 42) hx hb d_R_failHere_38 (by decide) ?_
          exact J42 true ((decide_eq_true (by first | exact Or.inl ((ch_h _ (Nat.lt_succ_of_le (hr_le ht _ _))).2.1.symm.trans c9) | exact Or.inr (Or.inl ((ch_h _ (Nat.lt_succ_of_le (hr_le ht _ _))).2.2.2.symm.trans c16)) | exact Or.inr (Or.inr (Or.inl (by assumption))) | exact Or.inr (Or.inr (Or.inr (Or.inl (by assumption)))) | exact Or.inr (Or.inr (Or.inr (Or.inr (by assumption)))))).symm) _ _ _ hP hD hS (lv_sub hl [1, 0] (rfl))
        · skip
          refine lv_iload_n hx hb d_R_failHere_31 rfl (lv_at hl 0 rfl) ?_
          refine lv_bipush (v := nI 44) hx hb d_R_failHere_32 (by decide) ?_
          refine yh_icmp_ne (a := hr t n p) (b := 44) (tgt := 41) hx hb d_R_failHere_34 (by decide) (hr_le ht _ _) (by omega) (fun c34 => ?_) (fun c34 => ?_)
          · skip
            refine lv_iconst (v := nI 0) hx hb d_R_failHere_41 (by decide) ?_
            exact J42 false ((decide_eq_false (by rw [(ch_h _ (Nat.lt_succ_of_le (hr_le ht _ _))).2.1] at c9; rw [(ch_h _ (Nat.lt_succ_of_le (hr_le ht _ _))).2.2.2] at c16; intro y; rcases y with y | y | y | y | y <;> first | contradiction | (rw [c9] at y; exact absurd y (by decide)) | (rw [c16] at y; exact absurd y (by decide)))).symm) _ _ _ hP hD hS (lv_sub hl [1, 0] (rfl))
          · skip
            refine lv_iconst (v := nI 1) hx hb d_R_failHere_37 (by decide) ?_
            refine lv_goto (tgt := 42) hx hb d_R_failHere_38 (by decide) ?_
            exact J42 true ((decide_eq_true (by first | exact Or.inl ((ch_h _ (Nat.lt_succ_of_le (hr_le ht _ _))).2.1.symm.trans c9) | exact Or.inr (Or.inl ((ch_h _ (Nat.lt_succ_of_le (hr_le ht _ _))).2.2.2.symm.trans c16)) | exact Or.inr (Or.inr (Or.inl (by assumption))) | exact Or.inr (Or.inr (Or.inr (Or.inl (by assumption)))) | exact Or.inr (Or.inr (Or.inr (Or.inr (by assumption)))))).symm) _ _ _ hP hD hS (lv_sub hl [1, 0] (rfl))
set_option maxHeartbeats 4000000 in
set_option maxRecDepth 100000 in
theorem c_R_pass {l : Launch} (hlt : l.stackTraces = false) (G : gl) (h : Nat → Nat) (dg : Nat) (n : Nat) (p : Nat) (fk : Nat) (fp : Nat) (t : Nat → Nat) (np : Nat) (no : Nat) (k : Nat) (c : Nat) (f : Nat → Int32) (o : Nat → Int32) (bt : Nat) (bk : Nat → Int32) (bn : Nat → Int32) (x : Nat) (hn : n ≤ 65536) (hp : p ≤ n) (ht : ∀ i, t i < 256) (hx9 : x < 256) : YC l G y_R_pass k_R_pass 2 (Option.none : Option FieldType) 8 134 [.ref (h 0), .int (nI x)] (wR G h dg n p fk fp t np no k c f o bt bk bn) (fun v w => (hr t n p = x) ∧ v = none ∧ w = wR G h dg n (p + 1) fk fp t np no k c f o bt bk bn) (fun E w => (¬ hr t n p = x) ∧ E = "java/lang/IllegalArgumentException" ∧ w = wR G h dg n p (uxp (hr t n p)) p t np no k c f o bt bk bn) := by
  refine yc_of (by decide) ?_
  intro pg ev sx mm bl mt cd A C0 hP hD
  obtain ⟨hx, hb, hrt, hml, hown, hg, hlocks, hxt, hE, hK, hA, hmn⟩ := C0
  have hS : va_S A sx.heap sx.heap [] := va_S.rf
  have hl := lv_entry ([.ref (h 0), .int (nI x)]) (n := 2) (Nat.le_of_ble_eq_true rfl)
  rw [lg_entry_eq]
  generalize (lg_sl ([.ref (h 0), .int (nI x)]) ++ List.replicate (2 - (lg_sl ([.ref (h 0), .int (nI x)])).length) Slot.unset).toArray = ls at hl ⊢
  have hl : lv_has ls 2 [(0, .ref (h 0)), (1, .int (nI x))] := hl
  obtain ⟨H, hH⟩ : ∃ H, H = sx.heap := ⟨_, rfl⟩
  rw [← hH] at hP
  have hS : va_S A sx.heap H [] := by rw [hH]; exact hS
  suffices h9 : W pg l ev (yR 8 134) sx mm _ bl mt cd H [] 0 0 (yMQ bl G A _ _ _ _ sx) (F0 mm 0 ls []) by rw [hH] at h9; exact h9
  obtain ⟨locs, hlo⟩ : ∃ locs : List Loc, locs = [] := ⟨_, rfl⟩
  rw [← hlo] at hS ⊢
  refine lv_aload_n hx hb d_R_pass_0 rfl (lv_at hl 0 rfl) ?_
  refine y_call (y_runV (As := []) (rest := []) hx hb hml hown (c_R_here l G h dg n p fk fp t np no k c f o bt bk bn  (by omega) (by omega) (ht)) (gV (n := 0) hg tk_356 tk_358 (gt_s 6 (by decide +kernel) (by decide +kernel)) tk_4 tk_359 (by decide +kernel) ⟨Nat.le_of_ble_eq_true rfl, Nat.le_of_ble_eq_true rfl⟩) (va_recv hK hP (ci := 1) (q0 := 0) rfl rfl) (y_pre hE hK hP hD hS hA [0, 1, 2, 3, 4, 5, 6, 7] rfl rfl) rfl rfl hl.1 rfl (lv_room (Nat.le_of_ble_eq_true rfl)) d_R_pass_1 ⟨Nat.le_of_ble_eq_true rfl, Nat.le_of_ble_eq_true rfl⟩) hP hD hS hA [0, 1, 2, 3, 4, 5, 6, 7] rfl (fun _ _ _ _ _ _ hp => False.elim hp) (fun v w H locs hp hlw hP hD hS => ?_)
  obtain ⟨rfl, rfl⟩ := hp
  have hP : va_P (gD G) vwC (wR G h dg n p fk fp t np no k c f o bt bk bn) H := hP
  have hD : va_D A (wR G h dg n p fk fp t np no k c f o bt bk bn) := hD
  refine W.eq (g2 := F0 mm 4 ls [.int (toI (hr t n p))]) rfl ?_
  refine lv_iload_n hx hb d_R_pass_4 rfl (lv_at hl 1 rfl) ?_
  refine yh_icmp_eq (a := hr t n p) (b := x) (tgt := 12) hx hb d_R_pass_5 (by decide) (hr_le ht _ _) (by omega) (fun c5 => ?_) (fun c5 => ?_)
  · skip
    refine lv_aload_n hx hb d_R_pass_12 rfl (lv_at hl 0 rfl) ?_
    refine lv_dup hx hb d_R_pass_13 rfl ?_
    refine va_get (D := gD G) (ci := 1) (v := .int (nI p)) (C := "WordShapes$Reader") (T := TR) (N := 8) hx hb hg iw_R hown hK hP 0 rfl rfl 5 (by decide) (hg _ tk_92) (fun _ h9 => h9) rfl d_R_pass_14 ?_
    refine lv_iconst (v := nI 1) hx hb d_R_pass_17 (by decide) ?_
    refine lv_iadd hx hb d_R_pass_18 ?_
    refine y_eqi (nI_add _ _) ?_
    refine va_put (D := gD G) (ci := 1) (v := .int (nI (p + 1))) (ty := .int) (C := "WordShapes$Reader") (T := TR) (N := 8) hx hb hg iw_R ft_R fo_R nm_R hown hK hP hD hS 0 rfl rfl 5 (by decide) (hg _ tk_92) (fun _ h9 => h9) rfl (by decide +kernel) (rfl) (rfl) (Nat.le_of_ble_eq_true rfl) d_R_pass_19 (fun H locs hP hD hS => ?_)
    have hP : va_P (gD G) vwC (wR G h dg n (p + 1) fk fp t np no k c f o bt bk bn) H := hP
    have hD : va_D A (wR G h dg n (p + 1) fk fp t np no k c f o bt bk bn) := hD
    exact yr_v (ws := wR G h dg n (p + 1) fk fp t np no k c f o bt bk bn) hx hb hrt hlocks (⟨c5, rfl, rfl⟩) rfl hK hP hD hS d_R_pass_22
  · skip
    refine lv_aload_n hx hb d_R_pass_8 rfl (lv_at hl 0 rfl) ?_
    refine y_call (y_runV (As := []) (rest := []) hx hb hml hown (c_R_failHere hlt G h dg n p fk fp t np no k c f o bt bk bn  (by omega) (by omega) (ht)) (gV (n := 0) hg tk_363 tk_365 (gt_s 7 (by decide +kernel) (by decide +kernel)) tk_4 tk_366 (by decide +kernel) ⟨Nat.le_of_ble_eq_true rfl, Nat.le_of_ble_eq_true rfl⟩) (va_recv hK hP (ci := 1) (q0 := 0) rfl rfl) (y_pre hE hK hP hD hS hA [0, 1, 2, 3, 4, 5, 6, 7] rfl rfl) rfl rfl hl.1 rfl (lv_room (Nat.le_of_ble_eq_true rfl)) d_R_pass_9 ⟨Nat.le_of_ble_eq_true rfl, Nat.le_of_ble_eq_true rfl⟩) hP hD hS hA [0, 1, 2, 3, 4, 5, 6, 7] rfl (fun E w q ce H locs hp hlw hP hD hS hq1 hq2 hq3 => ?_) (fun _ _ _ _ hp => False.elim hp)
    · skip
      obtain ⟨rfl, rfl⟩ := hp
      have hP : va_P (gD G) vwC (wR G h dg n p (uxp (hr t n p)) p t np no k c f o bt bk bn) H := hP
      have hD : va_D A (wR G h dg n p (uxp (hr t n p)) p t np no k c f o bt bk bn) := hD
      exact y_out (ws := wR G h dg n p (uxp (hr t n p)) p t np no k c f o bt bk bn) hxt hlocks hq1 hq2 hq3 (⟨c5, rfl, rfl⟩) rfl hK hP hD hS
