/-! the reference: its cells, and its rows while it reads -/
def ltL : List Nat := [80, 79, 73, 78, 84, 76, 73, 78, 69, 83, 84, 82, 73, 78, 71, 80, 79, 76, 89, 71, 79, 78, 77, 85, 76, 84, 73, 80, 79, 73, 78, 84, 77, 85, 76, 84, 73, 76, 73, 78, 69, 83, 84, 82, 73, 78, 71, 77, 85, 76, 84, 73, 80, 79, 76, 89, 71, 79, 78, 71, 69, 79, 77, 69, 84, 82, 89, 67, 79, 76, 76, 69, 67, 84, 73, 79, 78, 69, 77, 80, 84, 89]
def bgL : List Nat := [0, 0, 5, 15, 22, 32, 47, 59, 77, 82]
def ltN (i : Nat) : Nat := ltL.getD i 0
def bgN (i : Nat) : Nat := bgL.getD i 0
theorem bg_len : ∀ w, 1 ≤ w → w ≤ 8 → bgN (w + 1) = bgN w + (wdL w).length ∧ bgN (w + 1) ≤ 82 := by
  intro w h1 h2
  rcases (show w = 1 ∨ w = 2 ∨ w = 3 ∨ w = 4 ∨ w = 5 ∨ w = 6 ∨ w = 7 ∨ w = 8 by omega) with rfl | rfl | rfl | rfl | rfl | rfl | rfl | rfl <;> decide
theorem lt_wd : ∀ w, 1 ≤ w → w ≤ 8 → ∀ i, i < (wdL w).length → ltN (bgN w + i) = wdC w i := by
  intro w h1 h2
  rcases (show w = 1 ∨ w = 2 ∨ w = 3 ∨ w = 4 ∨ w = 5 ∨ w = 6 ∨ w = 7 ∨ w = 8 by omega) with rfl | rfl | rfl | rfl | rfl | rfl | rfl | rfl <;> decide
abbrev wM (G : gl) (h : Nat → Nat) (dg mp ml th n : Nat) (t : Nat → Nat) (pl : Nat → Int32) (pn : Nat → Nat) (xy : Nat → Int32) (pt : Nat → Nat) (sz : Nat) (rs ou : Nat → Nat) (wr sl p fk fp : Nat) (va : Int32) (oa oc ok : Nat → Int32) : va_W :=
  [(h 0, .inr (5, [.ref (h 1), .ref (h 2), .int (nI th), .int (nI dg), .int (nI mp), .int (nI ml), .int (nI n), .ref (h 3), .ref (h 4), .ref (h 5), .ref (h 6), .ref (h 7), .int (nI sz), .ref (h 8), .ref (h 9), .int (nI wr), .int (nI sl), .int (nI p), .int (nI fk), .int (nI fp), .int va, .ref (h 10), .ref (h 11), .ref (h 12)])),
   (h 1, .inl (gc G 0, 82, .inl (fun i => nI (ltN i)))), (h 2, .inl (gc G 0, 10, .inl (fun i => nI (bgN i)))), (h 3, .inl (gc G 0, 65536, .inl (fun i => nI (t i)))), (h 4, .inl (gc G 0, 16384, .inl pl)), (h 5, .inl (gc G 0, 4, .inl (fun i => nI (pn i)))), (h 6, .inl (gc G 0, 32768, .inl xy)), (h 7, .inl (gc G 0, 4, .inl (fun i => nI (pt i)))), (h 8, .inl (gc G 0, 131072, .inl (fun i => nI (rs i)))), (h 9, .inl (gc G 0, 131072, .inl (fun i => nI (ou i)))), (h 10, .inl (gc G 0, 52, .inl oa)), (h 11, .inl (gc G 0, 52, .inl oc)), (h 12, .inl (gc G 0, 52, .inl ok))]
/-- a slot's row of the plan with these numbers -/
def plR (pl : Nat → Int32) (s : Nat) (xs : List Int32) : Nat → Int32 := fun i => if 4096 * s ≤ i ∧ i < 4096 * s + xs.length ∧ i < 4096 * s + 4096 then xs.getD (i - 4096 * s) 0 else pl i
def pr2 (ys : List (Int32 × Int32)) (j : Nat) : Int32 := if j % 2 = 0 then (ys.getD (j / 2) (0, 0)).1 else (ys.getD (j / 2) (0, 0)).2
def xyR (xy : Nat → Int32) (s : Nat) (ys : List (Int32 × Int32)) : Nat → Int32 := fun i => if 8192 * s ≤ i ∧ i < 8192 * s + 2 * ys.length ∧ i < 8192 * s + 8192 then pr2 ys (i - 8192 * s) else xy i
theorem plR_nil (pl : Nat → Int32) (s : Nat) : plR pl s [] = pl := by
  funext i; exact if_neg (fun z => by have := z.2.1; rw [List.length_nil] at this; omega)
theorem plR_at {pl : Nat → Int32} {s w : Nat} {xs : List Int32} (h : w < xs.length) (h2 : w < 4096) : plR pl s xs (4096 * s + w) = xs.getD w 0 := by
  unfold plR
  rw [if_pos ⟨by omega, by omega, by omega⟩, show 4096 * s + w - 4096 * s = w by omega]
theorem plR_say (pl : Nat → Int32) (s : Nat) (xs : List Int32) (x : Int32) (hb : xs.length < 4096) : upd (plR pl s xs) (4096 * s + xs.length) x = plR pl s (xs ++ [x]) := by
  funext i
  unfold upd plR
  by_cases h : i = 4096 * s + xs.length
  · subst h
    rw [if_pos rfl, if_pos ⟨by omega, by rw [List.length_append, List.length_singleton]; omega, by omega⟩, show 4096 * s + xs.length - 4096 * s = xs.length by omega]
    simp [List.getD_eq_getElem?_getD]
  · rw [if_neg h]
    by_cases h2 : 4096 * s ≤ i ∧ i < 4096 * s + xs.length ∧ i < 4096 * s + 4096
    · rw [if_pos h2, if_pos ⟨h2.1, by rw [List.length_append]; omega, h2.2.2⟩]
      simp [List.getD_eq_getElem?_getD, List.getElem?_append_left (show i - 4096 * s < xs.length by omega)]
    · rw [if_neg h2, if_neg (fun z => by have := z.2.1; rw [List.length_append, List.length_singleton] at this; omega)]
theorem plR_set {pl : Nat → Int32} {s w : Nat} {xs : List Int32} (x : Int32) (h : w < xs.length) (hb : w < 4096) : upd (plR pl s xs) (4096 * s + w) x = plR pl s (xs.set w x) := by
  funext i
  unfold upd plR
  rw [List.length_set]
  by_cases h1 : i = 4096 * s + w
  · subst h1
    rw [if_pos rfl, if_pos ⟨by omega, by omega, by omega⟩, show 4096 * s + w - 4096 * s = w by omega]
    simp [List.getD_eq_getElem?_getD, h]
  · rw [if_neg h1]
    by_cases h2 : 4096 * s ≤ i ∧ i < 4096 * s + xs.length ∧ i < 4096 * s + 4096
    · rw [if_pos h2, if_pos h2]
      simp [List.getD_eq_getElem?_getD, List.getElem?_set_ne (show w ≠ i - 4096 * s by omega)]
    · rw [if_neg h2, if_neg h2]
/-- the other rows are as they were -/
theorem plR_o {pl : Nat → Int32} {s j i : Nat} {xs : List Int32} (h : ¬ j = s) (hi : i < 4096) : plR pl s xs (4096 * j + i) = pl (4096 * j + i) := if_neg (fun z => by omega)
theorem xyR_o {xy : Nat → Int32} {s j i : Nat} {ys : List (Int32 × Int32)} (h : ¬ j = s) (hi : i < 8192) : xyR xy s ys (8192 * j + i) = xy (8192 * j + i) := if_neg (fun z => by omega)
theorem xyR_at {xy : Nat → Int32} {s i : Nat} {ys : List (Int32 × Int32)} (h : i < 2 * ys.length) (h2 : i < 8192) : xyR xy s ys (8192 * s + i) = pr2 ys i := by
  unfold xyR
  rw [if_pos ⟨by omega, by omega, by omega⟩, show 8192 * s + i - 8192 * s = i by omega]
theorem xyR_nil (xy : Nat → Int32) (s : Nat) : xyR xy s [] = xy := by
  funext i; exact if_neg (fun z => by have := z.2.1; rw [List.length_nil] at this; omega)
theorem xyR_add (xy : Nat → Int32) (s : Nat) (ys : List (Int32 × Int32)) (x y : Int32) (hb : ys.length < 4096) : upd (upd (xyR xy s ys) (2 * (4096 * s + ys.length)) x) (2 * (4096 * s + ys.length) + 1) y = xyR xy s (ys ++ [(x, y)]) := by
  funext i
  unfold upd xyR
  rw [List.length_append, List.length_singleton]
  by_cases h1 : i = 2 * (4096 * s + ys.length) + 1
  · subst h1
    rw [if_pos rfl, if_pos ⟨by omega, by omega, by omega⟩, show 2 * (4096 * s + ys.length) + 1 - 8192 * s = 2 * ys.length + 1 by omega]
    unfold pr2
    rw [if_neg (by omega), show (2 * ys.length + 1) / 2 = ys.length by omega]
    simp [List.getD_eq_getElem?_getD]
  · rw [if_neg h1]
    by_cases h2 : i = 2 * (4096 * s + ys.length)
    · subst h2
      rw [if_pos rfl, if_pos ⟨by omega, by omega, by omega⟩, show 2 * (4096 * s + ys.length) - 8192 * s = 2 * ys.length by omega]
      unfold pr2
      rw [if_pos (by omega), show 2 * ys.length / 2 = ys.length by omega]
      simp [List.getD_eq_getElem?_getD]
    · rw [if_neg h2]
      by_cases h3 : 8192 * s ≤ i ∧ i < 8192 * s + 2 * ys.length ∧ i < 8192 * s + 8192
      · rw [if_pos h3, if_pos ⟨h3.1, by omega, h3.2.2⟩]
        unfold pr2
        simp [List.getD_eq_getElem?_getD, List.getElem?_append_left (show (i - 8192 * s) / 2 < ys.length by omega)]
      · rw [if_neg h3, if_neg (fun z => by omega)]
theorem vu_s (f : Nat → Nat) (s k : Nat) : va_up f s k s = k := if_pos rfl
theorem vu_n (f : Nat → Nat) (s k : Nat) : nI (va_up f s k s) = nI k := congrArg nI (vu_s f s k)
theorem vu_u {α : Type} (f : Nat → α) (s : Nat) (a b : α) : va_up (va_up f s a) s b = va_up f s b := by
  funext i; unfold va_up; split <;> rfl
theorem vu_st (f : Nat → Nat) (s k : Nat) : upd (fun i => nI (f i)) s (nI k) = fun i => nI (va_up f s k i) := by
  funext i; unfold upd va_up; split <;> rfl
abbrev wMR (G : gl) (h : Nat → Nat) (dg mp ml th n : Nat) (t : Nat → Nat) (pl : Nat → Int32) (pn : Nat → Nat) (xy : Nat → Int32) (pt : Nat → Nat) (sz : Nat) (rs ou : Nat → Nat) (wr sl p fk fp : Nat) (va : Int32) (oa oc ok : Nat → Int32) (xs : List Int32) (ys : List (Int32 × Int32)) : va_W :=
  wM G h dg mp ml th n t (plR pl sl xs) (va_up pn sl xs.length) (xyR xy sl ys) (va_up pt sl ys.length) sz rs ou wr sl p fk fp va oa oc ok
def isSg (b : Int32) : Bool := decide (b = nI 43 ∨ b = nI 45)
def isKn (b : Int32) : Bool := isLe b || isDi b || isSg b || decide (b = nI 46 ∨ b = nI 40 ∨ b = nI 41 ∨ b = nI 44)
theorem ch_g : ∀ c, c < 257 → isSg (toI c) = sgN c := by decide +kernel
theorem ch_k : ∀ c, c < 257 → uxp c = if c = 256 ∨ isKn (toI c) = true then 3 else 1 := by decide +kernel
theorem ch_nu : ∀ c, c < 257 → nuN c = (sgN c || diN c || decide (c = 46)) := by decide +kernel
theorem ch_n : ∀ c, c < 256 → isBl (nI c) = blN c ∧ isLe (nI c) = leN c ∧ isDi (nI c) = diN c := by decide +kernel
theorem rn_id {P : Nat → Bool} {t : Nat → Nat} {n p : Nat} : rn P t n (rn P t n p) = rn P t n p := rn_stop rn_end
theorem up_n : ∀ c, c < 256 → leN c = true → nI c &&& nI 95 = nI (upN c) ∧ upN c < 128 := by decide +kernel
/-- the last of the words 1 .. w that the letters are -/
def lsM (t : Nat → Nat) (a b : Nat) : Nat → Nat
  | 0 => 0
  | w + 1 => if wmP t a b (w + 1) then w + 1 else lsM t a b w

set_option maxHeartbeats 4000000 in
set_option maxRecDepth 100000 in
theorem c_M_within (l : Launch) (G : gl)  (a : Int32) (b : Int32) (c : Int32)  : YC l G y_M_within k_M_within 3 (Option.some FieldType.boolean) 0 0 [.int a, .int b, .int c] ([]) (fun v w => v = some (.int (bz (decide (b ≤ a ∧ a ≤ c)))) ∧ w = []) (fun _ _ => False) := by
  refine yc_of (by decide) ?_
  intro pg ev sx mm bl mt cd A C0 hP hD
  obtain ⟨hx, hb, hrt, hml, hown, hg, hlocks, hxt, hE, hK, hA, hmn⟩ := C0
  have hS : va_S A sx.heap sx.heap [] := va_S.rf
  have hl := lv_entry ([.int a, .int b, .int c]) (n := 3) (Nat.le_of_ble_eq_true rfl)
  rw [lg_entry_eq]
  generalize (lg_sl ([.int a, .int b, .int c]) ++ List.replicate (3 - (lg_sl ([.int a, .int b, .int c])).length) Slot.unset).toArray = ls at hl ⊢
  have hl : lv_has ls 3 [(0, .int a), (1, .int b), (2, .int c)] := hl
  obtain ⟨H, hH⟩ : ∃ H, H = sx.heap := ⟨_, rfl⟩
  rw [← hH] at hP
  have hS : va_S A sx.heap H [] := by rw [hH]; exact hS
  suffices h9 : W pg l ev (yR 0 0) sx mm _ bl mt cd H [] 0 0 (yMQ bl G A _ _ _ _ sx) (F0 mm 0 ls []) by rw [hH] at h9; exact h9
  obtain ⟨locs, hlo⟩ : ∃ locs : List Loc, locs = [] := ⟨_, rfl⟩
  rw [← hlo] at hS ⊢
  refine lv_iload_n hx hb d_M_within_0 rfl (lv_at hl 0 rfl) ?_
  refine lv_iload_n hx hb d_M_within_1 rfl (lv_at hl 1 rfl) ?_
  refine lv_icmp_lt (tgt := 14) hx hb d_M_within_2 (by decide) (fun c2 => ?_) (fun c2 => ?_)
  · skip
    refine lv_iconst (v := nI 0) hx hb d_M_within_14 (by decide) ?_
    exact yr_z (ws := []) hx hb hrt (rfl) hlocks (⟨congrArg (fun z => some (Value.int z)) (bz_f (by first | exact ⟨Int32.not_lt.mp c2, Int32.not_lt.mp c7⟩ | (intro z; first | exact absurd z.1 (Int32.not_le.mpr c2) | exact absurd z.2 (Int32.not_le.mpr c7)))), rfl⟩) rfl hK hP hD hS d_M_within_15
  · skip
    refine lv_iload_n hx hb d_M_within_5 rfl (lv_at hl 0 rfl) ?_
    refine lv_iload_n hx hb d_M_within_6 rfl (lv_at hl 2 rfl) ?_
    refine lv_icmp_gt (tgt := 14) hx hb d_M_within_7 (by decide) (fun c7 => ?_) (fun c7 => ?_)
    · skip
      refine lv_iconst (v := nI 0) hx hb d_M_within_14 (by decide) ?_
      exact yr_z (ws := []) hx hb hrt (rfl) hlocks (⟨congrArg (fun z => some (Value.int z)) (bz_f (by first | exact ⟨Int32.not_lt.mp c2, Int32.not_lt.mp c7⟩ | (intro z; first | exact absurd z.1 (Int32.not_le.mpr c2) | exact absurd z.2 (Int32.not_le.mpr c7)))), rfl⟩) rfl hK hP hD hS d_M_within_15
    · skip
      refine lv_iconst (v := nI 1) hx hb d_M_within_10 (by decide) ?_
      refine lv_goto (tgt := 15) hx hb d_M_within_11 (by decide) ?_
      exact yr_z (ws := []) hx hb hrt (rfl) hlocks (⟨congrArg (fun z => some (Value.int z)) (bz_t (by first | exact ⟨Int32.not_lt.mp c2, Int32.not_lt.mp c7⟩ | (intro z; first | exact absurd z.1 (Int32.not_le.mpr c2) | exact absurd z.2 (Int32.not_le.mpr c7)))), rfl⟩) rfl hK hP hD hS d_M_within_15
set_option maxHeartbeats 4000000 in
set_option maxRecDepth 100000 in
theorem c_M_isSlot (l : Launch) (G : gl)  (a : Int32)  : YC l G y_M_isSlot k_M_isSlot 1 (Option.some FieldType.boolean) 1 22 [.int a] ([]) (fun v w => v = some (.int (bz (decide (nI 0 ≤ a ∧ a ≤ nI 3)))) ∧ w = []) (fun _ _ => False) := by
  refine yc_of (by decide) ?_
  intro pg ev sx mm bl mt cd A C0 hP hD
  obtain ⟨hx, hb, hrt, hml, hown, hg, hlocks, hxt, hE, hK, hA, hmn⟩ := C0
  have hS : va_S A sx.heap sx.heap [] := va_S.rf
  have hl := lv_entry ([.int a]) (n := 1) (Nat.le_of_ble_eq_true rfl)
  rw [lg_entry_eq]
  generalize (lg_sl ([.int a]) ++ List.replicate (1 - (lg_sl ([.int a])).length) Slot.unset).toArray = ls at hl ⊢
  have hl : lv_has ls 1 [(0, .int a)] := hl
  obtain ⟨H, hH⟩ : ∃ H, H = sx.heap := ⟨_, rfl⟩
  rw [← hH] at hP
  have hS : va_S A sx.heap H [] := by rw [hH]; exact hS
  suffices h9 : W pg l ev (yR 1 22) sx mm _ bl mt cd H [] 0 0 (yMQ bl G A _ _ _ _ sx) (F0 mm 0 ls []) by rw [hH] at h9; exact h9
  obtain ⟨locs, hlo⟩ : ∃ locs : List Loc, locs = [] := ⟨_, rfl⟩
  rw [← hlo] at hS ⊢
  refine lv_iload_n hx hb d_M_isSlot_0 rfl (lv_at hl 0 rfl) ?_
  refine lv_iconst (v := nI 0) hx hb d_M_isSlot_1 (by decide) ?_
  refine lv_iconst (v := nI 3) hx hb d_M_isSlot_2 (by decide) ?_
  refine y_call (y_runS (As := [.int a, .int (nI 0), .int (nI 3)]) (rest := []) hx hb hml hown (c_M_within l G  a (nI 0) (nI 3) ) (gS (n := 3) hg tk_772 tk_773 tk_7 tk_774 (by decide +kernel) ⟨Nat.le_of_ble_eq_true rfl, Nat.le_of_ble_eq_true rfl⟩) (y_pre hE hK hP hD hS hA [] rfl rfl) rfl rfl hl.1 rfl (lv_room (Nat.le_of_ble_eq_true rfl)) d_M_isSlot_3 ⟨Nat.le_of_ble_eq_true rfl, Nat.le_of_ble_eq_true rfl⟩) hP hD hS hA [] rfl (fun _ _ _ _ _ _ hp => False.elim hp) (fun v9 w9 H locs hp hlw hP hD hS => ?_)
  obtain ⟨rfl, rfl⟩ := hp
  have hP : va_P (gD G) vwC ([]) H := hP
  have hD : va_D A ([]) := hD
  refine W.eq (g2 := F0 mm 6 ls [.int (bz (decide ((nI 0) ≤ a ∧ a ≤ (nI 3))))]) rfl ?_
  exact yr_z (ws := []) hx hb hrt (bz_nar _) hlocks (⟨rfl, rfl⟩) rfl hK hP hD hS d_M_isSlot_6
set_option maxHeartbeats 4000000 in
set_option maxRecDepth 100000 in
theorem c_M_isBlank (l : Launch) (G : gl)  (b : Int32)  : YC l G y_M_isBlank k_M_isBlank 1 (Option.some FieldType.boolean) 0 0 [.int b] ([]) (fun v w => v = some (.int (bz (isBl b))) ∧ w = []) (fun _ _ => False) := by
  refine yc_of (by decide) ?_
  intro pg ev sx mm bl mt cd A C0 hP hD
  obtain ⟨hx, hb, hrt, hml, hown, hg, hlocks, hxt, hE, hK, hA, hmn⟩ := C0
  have hS : va_S A sx.heap sx.heap [] := va_S.rf
  have hl := lv_entry ([.int b]) (n := 1) (Nat.le_of_ble_eq_true rfl)
  rw [lg_entry_eq]
  generalize (lg_sl ([.int b]) ++ List.replicate (1 - (lg_sl ([.int b])).length) Slot.unset).toArray = ls at hl ⊢
  have hl : lv_has ls 1 [(0, .int b)] := hl
  obtain ⟨H, hH⟩ : ∃ H, H = sx.heap := ⟨_, rfl⟩
  rw [← hH] at hP
  have hS : va_S A sx.heap H [] := by rw [hH]; exact hS
  suffices h9 : W pg l ev (yR 0 0) sx mm _ bl mt cd H [] 0 0 (yMQ bl G A _ _ _ _ sx) (F0 mm 0 ls []) by rw [hH] at h9; exact h9
  obtain ⟨locs, hlo⟩ : ∃ locs : List Loc, locs = [] := ⟨_, rfl⟩
  rw [← hlo] at hS ⊢
  refine lv_iload_n hx hb d_M_isBlank_0 rfl (lv_at hl 0 rfl) ?_
  refine lv_bipush (v := nI 32) hx hb d_M_isBlank_1 (by decide) ?_
  refine lv_icmp_eq (tgt := 24) hx hb d_M_isBlank_3 (by decide) (fun c3 => ?_) (fun c3 => ?_)
  · skip
    refine lv_iconst (v := nI 1) hx hb d_M_isBlank_24 (by decide) ?_
    refine lv_goto (tgt := 29) hx hb d_M_isBlank_25 (by decide) ?_
    exact yr_z (ws := []) hx hb hrt (rfl) hlocks (⟨congrArg (fun z => some (Value.int z)) (bz_t (by first | exact Or.inl (by assumption) | exact Or.inr (Or.inl (by assumption)) | exact Or.inr (Or.inr (Or.inl (by assumption))) | exact Or.inr (Or.inr (Or.inr (by assumption))) | (intro z; rcases z with z | z | z | z <;> contradiction))), rfl⟩) rfl hK hP hD hS d_M_isBlank_29
  · skip
    refine lv_iload_n hx hb d_M_isBlank_6 rfl (lv_at hl 0 rfl) ?_
    refine lv_bipush (v := nI 9) hx hb d_M_isBlank_7 (by decide) ?_
    refine lv_icmp_eq (tgt := 24) hx hb d_M_isBlank_9 (by decide) (fun c9 => ?_) (fun c9 => ?_)
    · skip
      refine lv_iconst (v := nI 1) hx hb d_M_isBlank_24 (by decide) ?_
      refine lv_goto (tgt := 29) hx hb d_M_isBlank_25 (by decide) ?_
      exact yr_z (ws := []) hx hb hrt (rfl) hlocks (⟨congrArg (fun z => some (Value.int z)) (bz_t (by first | exact Or.inl (by assumption) | exact Or.inr (Or.inl (by assumption)) | exact Or.inr (Or.inr (Or.inl (by assumption))) | exact Or.inr (Or.inr (Or.inr (by assumption))) | (intro z; rcases z with z | z | z | z <;> contradiction))), rfl⟩) rfl hK hP hD hS d_M_isBlank_29
    · skip
      refine lv_iload_n hx hb d_M_isBlank_12 rfl (lv_at hl 0 rfl) ?_
      refine lv_bipush (v := nI 10) hx hb d_M_isBlank_13 (by decide) ?_
      refine lv_icmp_eq (tgt := 24) hx hb d_M_isBlank_15 (by decide) (fun c15 => ?_) (fun c15 => ?_)
      · skip
        refine lv_iconst (v := nI 1) hx hb d_M_isBlank_24 (by decide) ?_
        refine lv_goto (tgt := 29) hx hb d_M_isBlank_25 (by decide) ?_
        exact yr_z (ws := []) hx hb hrt (rfl) hlocks (⟨congrArg (fun z => some (Value.int z)) (bz_t (by first | exact Or.inl (by assumption) | exact Or.inr (Or.inl (by assumption)) | exact Or.inr (Or.inr (Or.inl (by assumption))) | exact Or.inr (Or.inr (Or.inr (by assumption))) | (intro z; rcases z with z | z | z | z <;> contradiction))), rfl⟩) rfl hK hP hD hS d_M_isBlank_29
      · skip
        refine lv_iload_n hx hb d_M_isBlank_18 rfl (lv_at hl 0 rfl) ?_
        refine lv_bipush (v := nI 13) hx hb d_M_isBlank_19 (by decide) ?_
        refine lv_icmp_ne (tgt := 28) hx hb d_M_isBlank_21 (by decide) (fun c21 => ?_) (fun c21 => ?_)
        · skip
          refine lv_iconst (v := nI 0) hx hb d_M_isBlank_28 (by decide) ?_
          exact yr_z (ws := []) hx hb hrt (rfl) hlocks (⟨congrArg (fun z => some (Value.int z)) (bz_f (by first | exact Or.inl (by assumption) | exact Or.inr (Or.inl (by assumption)) | exact Or.inr (Or.inr (Or.inl (by assumption))) | exact Or.inr (Or.inr (Or.inr (by assumption))) | (intro z; rcases z with z | z | z | z <;> contradiction))), rfl⟩) rfl hK hP hD hS d_M_isBlank_29
        · skip
          refine lv_iconst (v := nI 1) hx hb d_M_isBlank_24 (by decide) ?_
          refine lv_goto (tgt := 29) hx hb d_M_isBlank_25 (by decide) ?_
          exact yr_z (ws := []) hx hb hrt (rfl) hlocks (⟨congrArg (fun z => some (Value.int z)) (bz_t (by first | exact Or.inl (by assumption) | exact Or.inr (Or.inl (by assumption)) | exact Or.inr (Or.inr (Or.inl (by assumption))) | exact Or.inr (Or.inr (Or.inr (by assumption))) | (intro z; rcases z with z | z | z | z <;> contradiction))), rfl⟩) rfl hK hP hD hS d_M_isBlank_29
set_option maxHeartbeats 4000000 in
set_option maxRecDepth 100000 in
theorem c_M_isLetter (l : Launch) (G : gl)  (b : Int32)  : YC l G y_M_isLetter k_M_isLetter 1 (Option.some FieldType.boolean) 1 22 [.int b] ([]) (fun v w => v = some (.int (bz (isLe b))) ∧ w = []) (fun _ _ => False) := by
  refine yc_of (by decide) ?_
  intro pg ev sx mm bl mt cd A C0 hP hD
  obtain ⟨hx, hb, hrt, hml, hown, hg, hlocks, hxt, hE, hK, hA, hmn⟩ := C0
  have hS : va_S A sx.heap sx.heap [] := va_S.rf
  have hl := lv_entry ([.int b]) (n := 1) (Nat.le_of_ble_eq_true rfl)
  rw [lg_entry_eq]
  generalize (lg_sl ([.int b]) ++ List.replicate (1 - (lg_sl ([.int b])).length) Slot.unset).toArray = ls at hl ⊢
  have hl : lv_has ls 1 [(0, .int b)] := hl
  obtain ⟨H, hH⟩ : ∃ H, H = sx.heap := ⟨_, rfl⟩
  rw [← hH] at hP
  have hS : va_S A sx.heap H [] := by rw [hH]; exact hS
  suffices h9 : W pg l ev (yR 1 22) sx mm _ bl mt cd H [] 0 0 (yMQ bl G A _ _ _ _ sx) (F0 mm 0 ls []) by rw [hH] at h9; exact h9
  obtain ⟨locs, hlo⟩ : ∃ locs : List Loc, locs = [] := ⟨_, rfl⟩
  rw [← hlo] at hS ⊢
  refine lv_iload_n hx hb d_M_isLetter_0 rfl (lv_at hl 0 rfl) ?_
  refine lv_bipush (v := nI 65) hx hb d_M_isLetter_1 (by decide) ?_
  refine lv_bipush (v := nI 90) hx hb d_M_isLetter_3 (by decide) ?_
  refine y_call (y_runS (As := [.int b, .int (nI 65), .int (nI 90)]) (rest := []) hx hb hml hown (c_M_within l G  b (nI 65) (nI 90) ) (gS (n := 3) hg tk_772 tk_773 tk_7 tk_774 (by decide +kernel) ⟨Nat.le_of_ble_eq_true rfl, Nat.le_of_ble_eq_true rfl⟩) (y_pre hE hK hP hD hS hA [] rfl rfl) rfl rfl hl.1 rfl (lv_room (Nat.le_of_ble_eq_true rfl)) d_M_isLetter_5 ⟨Nat.le_of_ble_eq_true rfl, Nat.le_of_ble_eq_true rfl⟩) hP hD hS hA [] rfl (fun _ _ _ _ _ _ hp => False.elim hp) (fun v9 w9 H locs hp hlw hP hD hS => ?_)
  obtain ⟨rfl, rfl⟩ := hp
  have hP : va_P (gD G) vwC ([]) H := hP
  have hD : va_D A ([]) := hD
  refine W.eq (g2 := F0 mm 8 ls [.int (bz (decide ((nI 65) ≤ b ∧ b ≤ (nI 90))))]) rfl ?_
  refine yz_if_ne (P := (nI 65) ≤ b ∧ b ≤ (nI 90)) (tgt := 22) hx hb d_M_isLetter_8 (by decide) (fun c8 => ?_) (fun c8 => ?_)
  · skip
    refine lv_iconst (v := nI 1) hx hb d_M_isLetter_22 (by decide) ?_
    refine lv_goto (tgt := 27) hx hb d_M_isLetter_23 (by decide) ?_
    exact yr_z (ws := []) hx hb hrt (rfl) hlocks (⟨congrArg (fun z => some (Value.int z)) (bz_t (by first | exact Or.inl c8 | exact Or.inr c19 | (intro z; exact z.elim c8 c19))), rfl⟩) rfl hK hP hD hS d_M_isLetter_27
  · skip
    refine lv_iload_n hx hb d_M_isLetter_11 rfl (lv_at hl 0 rfl) ?_
    refine lv_bipush (v := nI 97) hx hb d_M_isLetter_12 (by decide) ?_
    refine lv_bipush (v := nI 122) hx hb d_M_isLetter_14 (by decide) ?_
    refine y_call (y_runS (As := [.int b, .int (nI 97), .int (nI 122)]) (rest := []) hx hb hml hown (c_M_within l G  b (nI 97) (nI 122) ) (gS (n := 3) hg tk_772 tk_773 tk_7 tk_774 (by decide +kernel) ⟨Nat.le_of_ble_eq_true rfl, Nat.le_of_ble_eq_true rfl⟩) (y_pre hE hK hP hD hS hA [] rfl rfl) rfl rfl hl.1 rfl (lv_room (Nat.le_of_ble_eq_true rfl)) d_M_isLetter_16 ⟨Nat.le_of_ble_eq_true rfl, Nat.le_of_ble_eq_true rfl⟩) hP hD hS hA [] rfl (fun _ _ _ _ _ _ hp => False.elim hp) (fun v9 w9 H locs hp hlw hP hD hS => ?_)
    obtain ⟨rfl, rfl⟩ := hp
    have hP : va_P (gD G) vwC ([]) H := hP
    have hD : va_D A ([]) := hD
    refine W.eq (g2 := F0 mm 19 ls [.int (bz (decide ((nI 97) ≤ b ∧ b ≤ (nI 122))))]) rfl ?_
    refine yz_if_eq (P := (nI 97) ≤ b ∧ b ≤ (nI 122)) (tgt := 26) hx hb d_M_isLetter_19 (by decide) (fun c19 => ?_) (fun c19 => ?_)
    · skip
      refine lv_iconst (v := nI 0) hx hb d_M_isLetter_26 (by decide) ?_
      exact yr_z (ws := []) hx hb hrt (rfl) hlocks (⟨congrArg (fun z => some (Value.int z)) (bz_f (by first | exact Or.inl c8 | exact Or.inr c19 | (intro z; exact z.elim c8 c19))), rfl⟩) rfl hK hP hD hS d_M_isLetter_27
    · skip
      refine lv_iconst (v := nI 1) hx hb d_M_isLetter_22 (by decide) ?_
      refine lv_goto (tgt := 27) hx hb d_M_isLetter_23 (by decide) ?_
      exact yr_z (ws := []) hx hb hrt (rfl) hlocks (⟨congrArg (fun z => some (Value.int z)) (bz_t (by first | exact Or.inl c8 | exact Or.inr c19 | (intro z; exact z.elim c8 c19))), rfl⟩) rfl hK hP hD hS d_M_isLetter_27
set_option maxHeartbeats 4000000 in
set_option maxRecDepth 100000 in
theorem c_M_isDigit (l : Launch) (G : gl)  (b : Int32)  : YC l G y_M_isDigit k_M_isDigit 1 (Option.some FieldType.boolean) 1 22 [.int b] ([]) (fun v w => v = some (.int (bz (isDi b))) ∧ w = []) (fun _ _ => False) := by
  refine yc_of (by decide) ?_
  intro pg ev sx mm bl mt cd A C0 hP hD
  obtain ⟨hx, hb, hrt, hml, hown, hg, hlocks, hxt, hE, hK, hA, hmn⟩ := C0
  have hS : va_S A sx.heap sx.heap [] := va_S.rf
  have hl := lv_entry ([.int b]) (n := 1) (Nat.le_of_ble_eq_true rfl)
  rw [lg_entry_eq]
  generalize (lg_sl ([.int b]) ++ List.replicate (1 - (lg_sl ([.int b])).length) Slot.unset).toArray = ls at hl ⊢
  have hl : lv_has ls 1 [(0, .int b)] := hl
  obtain ⟨H, hH⟩ : ∃ H, H = sx.heap := ⟨_, rfl⟩
  rw [← hH] at hP
  have hS : va_S A sx.heap H [] := by rw [hH]; exact hS
  suffices h9 : W pg l ev (yR 1 22) sx mm _ bl mt cd H [] 0 0 (yMQ bl G A _ _ _ _ sx) (F0 mm 0 ls []) by rw [hH] at h9; exact h9
  obtain ⟨locs, hlo⟩ : ∃ locs : List Loc, locs = [] := ⟨_, rfl⟩
  rw [← hlo] at hS ⊢
  refine lv_iload_n hx hb d_M_isDigit_0 rfl (lv_at hl 0 rfl) ?_
  refine lv_bipush (v := nI 48) hx hb d_M_isDigit_1 (by decide) ?_
  refine lv_bipush (v := nI 57) hx hb d_M_isDigit_3 (by decide) ?_
  refine y_call (y_runS (As := [.int b, .int (nI 48), .int (nI 57)]) (rest := []) hx hb hml hown (c_M_within l G  b (nI 48) (nI 57) ) (gS (n := 3) hg tk_772 tk_773 tk_7 tk_774 (by decide +kernel) ⟨Nat.le_of_ble_eq_true rfl, Nat.le_of_ble_eq_true rfl⟩) (y_pre hE hK hP hD hS hA [] rfl rfl) rfl rfl hl.1 rfl (lv_room (Nat.le_of_ble_eq_true rfl)) d_M_isDigit_5 ⟨Nat.le_of_ble_eq_true rfl, Nat.le_of_ble_eq_true rfl⟩) hP hD hS hA [] rfl (fun _ _ _ _ _ _ hp => False.elim hp) (fun v9 w9 H locs hp hlw hP hD hS => ?_)
  obtain ⟨rfl, rfl⟩ := hp
  have hP : va_P (gD G) vwC ([]) H := hP
  have hD : va_D A ([]) := hD
  refine W.eq (g2 := F0 mm 8 ls [.int (bz (decide ((nI 48) ≤ b ∧ b ≤ (nI 57))))]) rfl ?_
  exact yr_z (ws := []) hx hb hrt (bz_nar _) hlocks (⟨rfl, rfl⟩) rfl hK hP hD hS d_M_isDigit_8
set_option maxHeartbeats 4000000 in
set_option maxRecDepth 100000 in
theorem c_M_isSign (l : Launch) (G : gl)  (b : Int32)  : YC l G y_M_isSign k_M_isSign 1 (Option.some FieldType.boolean) 0 0 [.int b] ([]) (fun v w => v = some (.int (bz (isSg b))) ∧ w = []) (fun _ _ => False) := by
  refine yc_of (by decide) ?_
  intro pg ev sx mm bl mt cd A C0 hP hD
  obtain ⟨hx, hb, hrt, hml, hown, hg, hlocks, hxt, hE, hK, hA, hmn⟩ := C0
  have hS : va_S A sx.heap sx.heap [] := va_S.rf
  have hl := lv_entry ([.int b]) (n := 1) (Nat.le_of_ble_eq_true rfl)
  rw [lg_entry_eq]
  generalize (lg_sl ([.int b]) ++ List.replicate (1 - (lg_sl ([.int b])).length) Slot.unset).toArray = ls at hl ⊢
  have hl : lv_has ls 1 [(0, .int b)] := hl
  obtain ⟨H, hH⟩ : ∃ H, H = sx.heap := ⟨_, rfl⟩
  rw [← hH] at hP
  have hS : va_S A sx.heap H [] := by rw [hH]; exact hS
  suffices h9 : W pg l ev (yR 0 0) sx mm _ bl mt cd H [] 0 0 (yMQ bl G A _ _ _ _ sx) (F0 mm 0 ls []) by rw [hH] at h9; exact h9
  obtain ⟨locs, hlo⟩ : ∃ locs : List Loc, locs = [] := ⟨_, rfl⟩
  rw [← hlo] at hS ⊢
  refine lv_iload_n hx hb d_M_isSign_0 rfl (lv_at hl 0 rfl) ?_
  refine lv_bipush (v := nI 43) hx hb d_M_isSign_1 (by decide) ?_
  refine lv_icmp_eq (tgt := 12) hx hb d_M_isSign_3 (by decide) (fun c3 => ?_) (fun c3 => ?_)
  · skip
    refine lv_iconst (v := nI 1) hx hb d_M_isSign_12 (by decide) ?_
    refine lv_goto (tgt := 17) hx hb d_M_isSign_13 (by decide) ?_
    exact yr_z (ws := []) hx hb hrt (rfl) hlocks (⟨congrArg (fun z => some (Value.int z)) (bz_t (by first | exact Or.inl (by assumption) | exact Or.inr (by assumption) | (intro z; exact z.elim c3 c9))), rfl⟩) rfl hK hP hD hS d_M_isSign_17
  · skip
    refine lv_iload_n hx hb d_M_isSign_6 rfl (lv_at hl 0 rfl) ?_
    refine lv_bipush (v := nI 45) hx hb d_M_isSign_7 (by decide) ?_
    refine lv_icmp_ne (tgt := 16) hx hb d_M_isSign_9 (by decide) (fun c9 => ?_) (fun c9 => ?_)
    · skip
      refine lv_iconst (v := nI 0) hx hb d_M_isSign_16 (by decide) ?_
      exact yr_z (ws := []) hx hb hrt (rfl) hlocks (⟨congrArg (fun z => some (Value.int z)) (bz_f (by first | exact Or.inl (by assumption) | exact Or.inr (by assumption) | (intro z; exact z.elim c3 c9))), rfl⟩) rfl hK hP hD hS d_M_isSign_17
    · skip
      refine lv_iconst (v := nI 1) hx hb d_M_isSign_12 (by decide) ?_
      refine lv_goto (tgt := 17) hx hb d_M_isSign_13 (by decide) ?_
      exact yr_z (ws := []) hx hb hrt (rfl) hlocks (⟨congrArg (fun z => some (Value.int z)) (bz_t (by first | exact Or.inl (by assumption) | exact Or.inr (by assumption) | (intro z; exact z.elim c3 c9))), rfl⟩) rfl hK hP hD hS d_M_isSign_17
set_option maxHeartbeats 4000000 in
set_option maxRecDepth 100000 in
theorem c_M_isKnown (l : Launch) (G : gl)  (b : Int32)  : YC l G y_M_isKnown k_M_isKnown 1 (Option.some FieldType.boolean) 2 42 [.int b] ([]) (fun v w => v = some (.int (bz (isKn b))) ∧ w = []) (fun _ _ => False) := by
  refine yc_of (by decide) ?_
  intro pg ev sx mm bl mt cd A C0 hP hD
  obtain ⟨hx, hb, hrt, hml, hown, hg, hlocks, hxt, hE, hK, hA, hmn⟩ := C0
  have hS : va_S A sx.heap sx.heap [] := va_S.rf
  have hl := lv_entry ([.int b]) (n := 1) (Nat.le_of_ble_eq_true rfl)
  rw [lg_entry_eq]
  generalize (lg_sl ([.int b]) ++ List.replicate (1 - (lg_sl ([.int b])).length) Slot.unset).toArray = ls at hl ⊢
  have hl : lv_has ls 1 [(0, .int b)] := hl
  obtain ⟨H, hH⟩ : ∃ H, H = sx.heap := ⟨_, rfl⟩
  rw [← hH] at hP
  have hS : va_S A sx.heap H [] := by rw [hH]; exact hS
  suffices h9 : W pg l ev (yR 2 42) sx mm _ bl mt cd H [] 0 0 (yMQ bl G A _ _ _ _ sx) (F0 mm 0 ls []) by rw [hH] at h9; exact h9
  obtain ⟨locs, hlo⟩ : ∃ locs : List Loc, locs = [] := ⟨_, rfl⟩
  rw [← hlo] at hS ⊢
  refine lv_iload_n hx hb d_M_isKnown_0 rfl (lv_at hl 0 rfl) ?_
  refine y_call (y_runS (As := [.int b]) (rest := []) hx hb hml hown (c_M_isLetter l G  b ) (gS (n := 1) hg tk_801 tk_802 tk_7 tk_803 (by decide +kernel) ⟨Nat.le_of_ble_eq_true rfl, Nat.le_of_ble_eq_true rfl⟩) (y_pre hE hK hP hD hS hA [] rfl rfl) rfl rfl hl.1 rfl (lv_room (Nat.le_of_ble_eq_true rfl)) d_M_isKnown_1 ⟨Nat.le_of_ble_eq_true rfl, Nat.le_of_ble_eq_true rfl⟩) hP hD hS hA [] rfl (fun _ _ _ _ _ _ hp => False.elim hp) (fun v9 w9 H locs hp hlw hP hD hS => ?_)
  obtain ⟨rfl, rfl⟩ := hp
  have hP : va_P (gD G) vwC ([]) H := hP
  have hD : va_D A ([]) := hD
  refine W.eq (g2 := F0 mm 4 ls [.int (bz (isLe b))]) rfl ?_
  refine yy_if_ne (P := isLe b) (tgt := 45) hx hb d_M_isKnown_4 (by decide) (fun c4 => ?_) (fun c4 => ?_)
  · skip
    refine lv_iconst (v := nI 1) hx hb d_M_isKnown_45 (by decide) ?_
    refine lv_goto (tgt := 50) hx hb d_M_isKnown_46 (by decide) ?_
    exact yr_z (ws := []) hx hb hrt (rfl) hlocks (⟨by unfold isKn; first | (rw [c4]; rfl) | (rw [c4, c11]; rfl) | (rw [c4, c11, c18]; rfl) | (rw [c4, c11, c18, decide_eq_true (Or.inl c24)]; rfl) | (rw [c4, c11, c18, decide_eq_true (Or.inr (Or.inl c30))]; rfl) | (rw [c4, c11, c18, decide_eq_true (Or.inr (Or.inr (Or.inl c36)))]; rfl) | (rw [c4, c11, c18, decide_eq_true (Or.inr (Or.inr (Or.inr c42)))]; rfl) | (rw [c4, c11, c18, decide_eq_false (fun z => z.elim c24 (fun z => z.elim c30 (fun z => z.elim c36 c42)))]; rfl), rfl⟩) rfl hK hP hD hS d_M_isKnown_50
  · skip
    refine lv_iload_n hx hb d_M_isKnown_7 rfl (lv_at hl 0 rfl) ?_
    refine y_call (y_runS (As := [.int b]) (rest := []) hx hb hml hown (c_M_isDigit l G  b ) (gS (n := 1) hg tk_811 tk_812 tk_7 tk_813 (by decide +kernel) ⟨Nat.le_of_ble_eq_true rfl, Nat.le_of_ble_eq_true rfl⟩) (y_pre hE hK hP hD hS hA [] rfl rfl) rfl rfl hl.1 rfl (lv_room (Nat.le_of_ble_eq_true rfl)) d_M_isKnown_8 ⟨Nat.le_of_ble_eq_true rfl, Nat.le_of_ble_eq_true rfl⟩) hP hD hS hA [] rfl (fun _ _ _ _ _ _ hp => False.elim hp) (fun v9 w9 H locs hp hlw hP hD hS => ?_)
    obtain ⟨rfl, rfl⟩ := hp
    have hP : va_P (gD G) vwC ([]) H := hP
    have hD : va_D A ([]) := hD
    refine W.eq (g2 := F0 mm 11 ls [.int (bz (isDi b))]) rfl ?_
    refine yy_if_ne (P := isDi b) (tgt := 45) hx hb d_M_isKnown_11 (by decide) (fun c11 => ?_) (fun c11 => ?_)
    · skip
      refine lv_iconst (v := nI 1) hx hb d_M_isKnown_45 (by decide) ?_
      refine lv_goto (tgt := 50) hx hb d_M_isKnown_46 (by decide) ?_
      exact yr_z (ws := []) hx hb hrt (rfl) hlocks (⟨by unfold isKn; first | (rw [c4]; rfl) | (rw [c4, c11]; rfl) | (rw [c4, c11, c18]; rfl) | (rw [c4, c11, c18, decide_eq_true (Or.inl c24)]; rfl) | (rw [c4, c11, c18, decide_eq_true (Or.inr (Or.inl c30))]; rfl) | (rw [c4, c11, c18, decide_eq_true (Or.inr (Or.inr (Or.inl c36)))]; rfl) | (rw [c4, c11, c18, decide_eq_true (Or.inr (Or.inr (Or.inr c42)))]; rfl) | (rw [c4, c11, c18, decide_eq_false (fun z => z.elim c24 (fun z => z.elim c30 (fun z => z.elim c36 c42)))]; rfl), rfl⟩) rfl hK hP hD hS d_M_isKnown_50
    · skip
      refine lv_iload_n hx hb d_M_isKnown_14 rfl (lv_at hl 0 rfl) ?_
      refine y_call (y_runS (As := [.int b]) (rest := []) hx hb hml hown (c_M_isSign l G  b ) (gS (n := 1) hg tk_814 tk_815 tk_7 tk_816 (by decide +kernel) ⟨Nat.le_of_ble_eq_true rfl, Nat.le_of_ble_eq_true rfl⟩) (y_pre hE hK hP hD hS hA [] rfl rfl) rfl rfl hl.1 rfl (lv_room (Nat.le_of_ble_eq_true rfl)) d_M_isKnown_15 ⟨Nat.le_of_ble_eq_true rfl, Nat.le_of_ble_eq_true rfl⟩) hP hD hS hA [] rfl (fun _ _ _ _ _ _ hp => False.elim hp) (fun v9 w9 H locs hp hlw hP hD hS => ?_)
      obtain ⟨rfl, rfl⟩ := hp
      have hP : va_P (gD G) vwC ([]) H := hP
      have hD : va_D A ([]) := hD
      refine W.eq (g2 := F0 mm 18 ls [.int (bz (isSg b))]) rfl ?_
      refine yy_if_ne (P := isSg b) (tgt := 45) hx hb d_M_isKnown_18 (by decide) (fun c18 => ?_) (fun c18 => ?_)
      · skip
        refine lv_iconst (v := nI 1) hx hb d_M_isKnown_45 (by decide) ?_
        refine lv_goto (tgt := 50) hx hb d_M_isKnown_46 (by decide) ?_
        exact yr_z (ws := []) hx hb hrt (rfl) hlocks (⟨by unfold isKn; first | (rw [c4]; rfl) | (rw [c4, c11]; rfl) | (rw [c4, c11, c18]; rfl) | (rw [c4, c11, c18, decide_eq_true (Or.inl c24)]; rfl) | (rw [c4, c11, c18, decide_eq_true (Or.inr (Or.inl c30))]; rfl) | (rw [c4, c11, c18, decide_eq_true (Or.inr (Or.inr (Or.inl c36)))]; rfl) | (rw [c4, c11, c18, decide_eq_true (Or.inr (Or.inr (Or.inr c42)))]; rfl) | (rw [c4, c11, c18, decide_eq_false (fun z => z.elim c24 (fun z => z.elim c30 (fun z => z.elim c36 c42)))]; rfl), rfl⟩) rfl hK hP hD hS d_M_isKnown_50
      · skip
        refine lv_iload_n hx hb d_M_isKnown_21 rfl (lv_at hl 0 rfl) ?_
        refine lv_bipush (v := nI 46) hx hb d_M_isKnown_22 (by decide) ?_
        refine lv_icmp_eq (tgt := 45) hx hb d_M_isKnown_24 (by decide) (fun c24 => ?_) (fun c24 => ?_)
        · skip
          refine lv_iconst (v := nI 1) hx hb d_M_isKnown_45 (by decide) ?_
          refine lv_goto (tgt := 50) hx hb d_M_isKnown_46 (by decide) ?_
          exact yr_z (ws := []) hx hb hrt (rfl) hlocks (⟨by unfold isKn; first | (rw [c4]; rfl) | (rw [c4, c11]; rfl) | (rw [c4, c11, c18]; rfl) | (rw [c4, c11, c18, decide_eq_true (Or.inl c24)]; rfl) | (rw [c4, c11, c18, decide_eq_true (Or.inr (Or.inl c30))]; rfl) | (rw [c4, c11, c18, decide_eq_true (Or.inr (Or.inr (Or.inl c36)))]; rfl) | (rw [c4, c11, c18, decide_eq_true (Or.inr (Or.inr (Or.inr c42)))]; rfl) | (rw [c4, c11, c18, decide_eq_false (fun z => z.elim c24 (fun z => z.elim c30 (fun z => z.elim c36 c42)))]; rfl), rfl⟩) rfl hK hP hD hS d_M_isKnown_50
        · skip
          refine lv_iload_n hx hb d_M_isKnown_27 rfl (lv_at hl 0 rfl) ?_
          refine lv_bipush (v := nI 40) hx hb d_M_isKnown_28 (by decide) ?_
          refine lv_icmp_eq (tgt := 45) hx hb d_M_isKnown_30 (by decide) (fun c30 => ?_) (fun c30 => ?_)
          · skip
            refine lv_iconst (v := nI 1) hx hb d_M_isKnown_45 (by decide) ?_
            refine lv_goto (tgt := 50) hx hb d_M_isKnown_46 (by decide) ?_
            exact yr_z (ws := []) hx hb hrt (rfl) hlocks (⟨by unfold isKn; first | (rw [c4]; rfl) | (rw [c4, c11]; rfl) | (rw [c4, c11, c18]; rfl) | (rw [c4, c11, c18, decide_eq_true (Or.inl c24)]; rfl) | (rw [c4, c11, c18, decide_eq_true (Or.inr (Or.inl c30))]; rfl) | (rw [c4, c11, c18, decide_eq_true (Or.inr (Or.inr (Or.inl c36)))]; rfl) | (rw [c4, c11, c18, decide_eq_true (Or.inr (Or.inr (Or.inr c42)))]; rfl) | (rw [c4, c11, c18, decide_eq_false (fun z => z.elim c24 (fun z => z.elim c30 (fun z => z.elim c36 c42)))]; rfl), rfl⟩) rfl hK hP hD hS d_M_isKnown_50
          · skip
            refine lv_iload_n hx hb d_M_isKnown_33 rfl (lv_at hl 0 rfl) ?_
            refine lv_bipush (v := nI 41) hx hb d_M_isKnown_34 (by decide) ?_
            refine lv_icmp_eq (tgt := 45) hx hb d_M_isKnown_36 (by decide) (fun c36 => ?_) (fun c36 => ?_)
            · skip
              refine lv_iconst (v := nI 1) hx hb d_M_isKnown_45 (by decide) ?_
              refine lv_goto (tgt := 50) hx hb d_M_isKnown_46 (by decide) ?_
              exact yr_z (ws := []) hx hb hrt (rfl) hlocks (⟨by unfold isKn; first | (rw [c4]; rfl) | (rw [c4, c11]; rfl) | (rw [c4, c11, c18]; rfl) | (rw [c4, c11, c18, decide_eq_true (Or.inl c24)]; rfl) | (rw [c4, c11, c18, decide_eq_true (Or.inr (Or.inl c30))]; rfl) | (rw [c4, c11, c18, decide_eq_true (Or.inr (Or.inr (Or.inl c36)))]; rfl) | (rw [c4, c11, c18, decide_eq_true (Or.inr (Or.inr (Or.inr c42)))]; rfl) | (rw [c4, c11, c18, decide_eq_false (fun z => z.elim c24 (fun z => z.elim c30 (fun z => z.elim c36 c42)))]; rfl), rfl⟩) rfl hK hP hD hS d_M_isKnown_50
            · skip
              refine lv_iload_n hx hb d_M_isKnown_39 rfl (lv_at hl 0 rfl) ?_
              refine lv_bipush (v := nI 44) hx hb d_M_isKnown_40 (by decide) ?_
              refine lv_icmp_ne (tgt := 49) hx hb d_M_isKnown_42 (by decide) (fun c42 => ?_) (fun c42 => ?_)
              · skip
                refine lv_iconst (v := nI 0) hx hb d_M_isKnown_49 (by decide) ?_
                exact yr_z (ws := []) hx hb hrt (rfl) hlocks (⟨by unfold isKn; first | (rw [c4]; rfl) | (rw [c4, c11]; rfl) | (rw [c4, c11, c18]; rfl) | (rw [c4, c11, c18, decide_eq_true (Or.inl c24)]; rfl) | (rw [c4, c11, c18, decide_eq_true (Or.inr (Or.inl c30))]; rfl) | (rw [c4, c11, c18, decide_eq_true (Or.inr (Or.inr (Or.inl c36)))]; rfl) | (rw [c4, c11, c18, decide_eq_true (Or.inr (Or.inr (Or.inr c42)))]; rfl) | (rw [c4, c11, c18, decide_eq_false (fun z => z.elim c24 (fun z => z.elim c30 (fun z => z.elim c36 c42)))]; rfl), rfl⟩) rfl hK hP hD hS d_M_isKnown_50
              · skip
                refine lv_iconst (v := nI 1) hx hb d_M_isKnown_45 (by decide) ?_
                refine lv_goto (tgt := 50) hx hb d_M_isKnown_46 (by decide) ?_
                exact yr_z (ws := []) hx hb hrt (rfl) hlocks (⟨by unfold isKn; first | (rw [c4]; rfl) | (rw [c4, c11]; rfl) | (rw [c4, c11, c18]; rfl) | (rw [c4, c11, c18, decide_eq_true (Or.inl c24)]; rfl) | (rw [c4, c11, c18, decide_eq_true (Or.inr (Or.inl c30))]; rfl) | (rw [c4, c11, c18, decide_eq_true (Or.inr (Or.inr (Or.inl c36)))]; rfl) | (rw [c4, c11, c18, decide_eq_true (Or.inr (Or.inr (Or.inr c42)))]; rfl) | (rw [c4, c11, c18, decide_eq_false (fun z => z.elim c24 (fun z => z.elim c30 (fun z => z.elim c36 c42)))]; rfl), rfl⟩) rfl hK hP hD hS d_M_isKnown_50
set_option maxHeartbeats 4000000 in
set_option maxRecDepth 100000 in
theorem c_M_here (l : Launch) (G : gl) (h : Nat → Nat) (dg : Nat) (mp : Nat) (ml : Nat) (th : Nat) (n : Nat) (t : Nat → Nat) (pl : Nat → Int32) (pn : Nat → Nat) (xy : Nat → Int32) (pt : Nat → Nat) (sz : Nat) (rs : Nat → Nat) (ou : Nat → Nat) (wr : Nat) (sl : Nat) (p : Nat) (fk : Nat) (fp : Nat) (va : Int32) (oa : Nat → Int32) (oc : Nat → Int32) (ok : Nat → Int32) (xs : List Int32) (ys : List (Int32 × Int32))  (hn : n ≤ 65536) (hp : p ≤ n) (ht : ∀ i, t i < 256) : YC l G y_M_here k_M_here 1 (Option.some FieldType.int) 0 0 [.ref (h 0)] (wMR G h dg mp ml th n t pl pn xy pt sz rs ou wr sl p fk fp va oa oc ok xs ys) (fun v w => v = some (.int (toI (hr t n p))) ∧ w = wMR G h dg mp ml th n t pl pn xy pt sz rs ou wr sl p fk fp va oa oc ok xs ys) (fun _ _ => False) := by
  refine yc_of (by decide) ?_
  intro pg ev sx mm bl mt cd A C0 hP hD
  obtain ⟨hx, hb, hrt, hml, hown, hg, hlocks, hxt, hE, hK, hA, hmn⟩ := C0
  have hS : va_S A sx.heap sx.heap [] := va_S.rf
  have hl := lv_entry ([.ref (h 0)]) (n := 1) (Nat.le_of_ble_eq_true rfl)
  rw [lg_entry_eq]
  generalize (lg_sl ([.ref (h 0)]) ++ List.replicate (1 - (lg_sl ([.ref (h 0)])).length) Slot.unset).toArray = ls at hl ⊢
  have hl : lv_has ls 1 [(0, .ref (h 0))] := hl
  obtain ⟨H, hH⟩ : ∃ H, H = sx.heap := ⟨_, rfl⟩
  rw [← hH] at hP
  have hS : va_S A sx.heap H [] := by rw [hH]; exact hS
  suffices h9 : W pg l ev (yR 0 0) sx mm _ bl mt cd H [] 0 0 (yMQ bl G A _ _ _ _ sx) (F0 mm 0 ls []) by rw [hH] at h9; exact h9
  obtain ⟨locs, hlo⟩ : ∃ locs : List Loc, locs = [] := ⟨_, rfl⟩
  rw [← hlo] at hS ⊢
  refine lv_aload_n hx hb d_M_here_0 rfl (lv_at hl 0 rfl) ?_
  refine va_get (D := gD G) (ci := 5) (v := .int (nI p)) (C := "WordShapesModel") (T := TM) (N := 24) hx hb hg iw_M hown hK hP 0 rfl rfl 17 (by decide) (hg _ tk_700) (fun _ h9 => h9) rfl d_M_here_1 ?_
  refine lv_aload_n hx hb d_M_here_4 rfl (lv_at hl 0 rfl) ?_
  refine va_get (D := gD G) (ci := 5) (v := .int (nI n)) (C := "WordShapesModel") (T := TM) (N := 24) hx hb hg iw_M hown hK hP 0 rfl rfl 6 (by decide) (hg _ tk_689) (fun _ h9 => h9) rfl d_M_here_5 ?_
  refine yn_icmp_ge (a := p) (b := n) (tgt := 23) hx hb d_M_here_8 (by decide) (by omega) (by omega) (fun c8 => ?_) (fun c8 => ?_)
  · skip
    refine lv_iconst (v := (-1)) hx hb d_M_here_23 (by decide) ?_
    exact yr_i (ws := wMR G h dg mp ml th n t pl pn xy pt sz rs ou wr sl p fk fp va oa oc ok xs ys) hx hb hrt hlocks (⟨by unfold hr; first | (rw [if_pos c8]; unfold toI; rw [if_neg (by have := ht p; omega)]) | (rw [if_neg (by omega)]; rfl), rfl⟩) rfl hK hP hD hS d_M_here_24
  · skip
    refine lv_aload_n hx hb d_M_here_11 rfl (lv_at hl 0 rfl) ?_
    refine va_get (D := gD G) (ci := 5) (v := .ref (h 3)) (C := "WordShapesModel") (T := TM) (N := 24) hx hb hg iw_M hown hK hP 0 rfl rfl 7 (by decide) (hg _ tk_690) (fun _ h9 => h9) rfl d_M_here_12 ?_
    refine lv_aload_n hx hb d_M_here_15 rfl (lv_at hl 0 rfl) ?_
    refine va_get (D := gD G) (ci := 5) (v := .int (nI p)) (C := "WordShapesModel") (T := TM) (N := 24) hx hb hg iw_M hown hK hP 0 rfl rfl 17 (by decide) (hg _ tk_700) (fun _ h9 => h9) rfl d_M_here_16 ?_
    refine yn_iald hx hb hK hP 3 0 rfl rfl (j := p) (x := nI (t p)) (rfl) (by omega) (by omega) d_M_here_19 ?_
    refine lv_goto (tgt := 24) hx hb d_M_here_20 (by decide) ?_
    exact yr_i (ws := wMR G h dg mp ml th n t pl pn xy pt sz rs ou wr sl p fk fp va oa oc ok xs ys) hx hb hrt hlocks (⟨by unfold hr; first | (rw [if_pos c8]; unfold toI; rw [if_neg (by have := ht p; omega)]) | (rw [if_neg (by omega)]; rfl), rfl⟩) rfl hK hP hD hS d_M_here_24
set_option maxHeartbeats 4000000 in
set_option maxRecDepth 100000 in
theorem c_M_pass (l : Launch) (G : gl) (h : Nat → Nat) (dg : Nat) (mp : Nat) (ml : Nat) (th : Nat) (n : Nat) (t : Nat → Nat) (pl : Nat → Int32) (pn : Nat → Nat) (xy : Nat → Int32) (pt : Nat → Nat) (sz : Nat) (rs : Nat → Nat) (ou : Nat → Nat) (wr : Nat) (sl : Nat) (p : Nat) (fk : Nat) (fp : Nat) (va : Int32) (oa : Nat → Int32) (oc : Nat → Int32) (ok : Nat → Int32) (xs : List Int32) (ys : List (Int32 × Int32))  (hn : n ≤ 65536) (hp : p ≤ n) (ht : ∀ i, t i < 256) : YC l G y_M_pass k_M_pass 1 (Option.none : Option FieldType) 1 20 [.ref (h 0)] (wMR G h dg mp ml th n t pl pn xy pt sz rs ou wr sl p fk fp va oa oc ok xs ys) (fun v w => v = none ∧ w = wMR G h dg mp ml th n t pl pn xy pt sz rs ou wr sl (rn blN t n p) fk fp va oa oc ok xs ys) (fun _ _ => False) := by
  refine yc_of (by decide) ?_
  intro pg ev sx mm bl mt cd A C0 hP hD
  obtain ⟨hx, hb, hrt, hml, hown, hg, hlocks, hxt, hE, hK, hA, hmn⟩ := C0
  have hS : va_S A sx.heap sx.heap [] := va_S.rf
  have hl := lv_entry ([.ref (h 0)]) (n := 1) (Nat.le_of_ble_eq_true rfl)
  rw [lg_entry_eq]
  generalize (lg_sl ([.ref (h 0)]) ++ List.replicate (1 - (lg_sl ([.ref (h 0)])).length) Slot.unset).toArray = ls at hl ⊢
  have hl : lv_has ls 1 [(0, .ref (h 0))] := hl
  obtain ⟨H, hH⟩ : ∃ H, H = sx.heap := ⟨_, rfl⟩
  rw [← hH] at hP
  have hS : va_S A sx.heap H [] := by rw [hH]; exact hS
  suffices h9 : W pg l ev (yR 1 20) sx mm _ bl mt cd H [] 0 0 (yMQ bl G A _ _ _ _ sx) (F0 mm 0 ls []) by rw [hH] at h9; exact h9
  obtain ⟨locs, hlo⟩ : ∃ locs : List Loc, locs = [] := ⟨_, rfl⟩
  rw [← hlo] at hS ⊢
  have J0 : ∀ (n9 : Nat) (q : Nat) (hm9 : n - q < n9) (hq1 : p ≤ q) (hq2 : q ≤ n) (hq3 : rn blN t n q = rn blN t n p) (H : Heap) (locs : List Loc) (ls : Array Slot), va_P (gD G) vwC (wMR G h dg mp ml th n t pl pn xy pt sz rs ou wr sl q fk fp va oa oc ok xs ys) H → va_D A (wMR G h dg mp ml th n t pl pn xy pt sz rs ou wr sl q fk fp va oa oc ok xs ys) → va_S A sx.heap H locs → lv_has ls 1 [(0, .ref (h 0))] → W pg l ev (yR 1 20) sx mm ([.ref (h 0)] : List Value).toArray bl mt cd H locs 0 0 (yMQ bl G A (wMR G h dg mp ml th n t pl pn xy pt sz rs ou wr sl p fk fp va oa oc ok xs ys).length (fun v w => v = none ∧ w = wMR G h dg mp ml th n t pl pn xy pt sz rs ou wr sl (rn blN t n p) fk fp va oa oc ok xs ys) (fun _ _ => False) ([.ref (h 0)] : List Value).toArray sx) (F0 mm 0 ls []) := by
    intro n9
    induction n9 with
    | zero => intro q hm9; exact absurd hm9 (Nat.not_lt_zero _)
    | succ n9 ih9 =>
      intro q hm9 hq1 hq2 hq3 H locs ls hP hD hS hl
      refine lv_aload_n hx hb d_M_pass_0 rfl (lv_at hl 0 rfl) ?_
      refine va_get (D := gD G) (ci := 5) (v := .int (nI q)) (C := "WordShapesModel") (T := TM) (N := 24) hx hb hg iw_M hown hK hP 0 rfl rfl 17 (by decide) (hg _ tk_700) (fun _ h9 => h9) rfl d_M_pass_1 ?_
      refine lv_aload_n hx hb d_M_pass_4 rfl (lv_at hl 0 rfl) ?_
      refine va_get (D := gD G) (ci := 5) (v := .int (nI n)) (C := "WordShapesModel") (T := TM) (N := 24) hx hb hg iw_M hown hK hP 0 rfl rfl 6 (by decide) (hg _ tk_689) (fun _ h9 => h9) rfl d_M_pass_5 ?_
      refine yn_icmp_ge (a := q) (b := n) (tgt := 39) hx hb d_M_pass_8 (by decide) (by omega) (by omega) (fun c8 => ?_) (fun c8 => ?_)
      · skip
        have e9 : q = rn blN t n p := by rw [← hq3]; exact (rn_stop (fun z => by first | omega | (rw [← (ch_n _ (ht q)).1] at z; rw [c23] at z; exact absurd z.2 (by decide)))).symm
        rw [e9] at hP hD
        exact yr_v (ws := wMR G h dg mp ml th n t pl pn xy pt sz rs ou wr sl (rn blN t n p) fk fp va oa oc ok xs ys) hx hb hrt hlocks (⟨rfl, rfl⟩) rfl hK hP hD hS d_M_pass_39
      · skip
        refine lv_aload_n hx hb d_M_pass_11 rfl (lv_at hl 0 rfl) ?_
        refine va_get (D := gD G) (ci := 5) (v := .ref (h 3)) (C := "WordShapesModel") (T := TM) (N := 24) hx hb hg iw_M hown hK hP 0 rfl rfl 7 (by decide) (hg _ tk_690) (fun _ h9 => h9) rfl d_M_pass_12 ?_
        refine lv_aload_n hx hb d_M_pass_15 rfl (lv_at hl 0 rfl) ?_
        refine va_get (D := gD G) (ci := 5) (v := .int (nI q)) (C := "WordShapesModel") (T := TM) (N := 24) hx hb hg iw_M hown hK hP 0 rfl rfl 17 (by decide) (hg _ tk_700) (fun _ h9 => h9) rfl d_M_pass_16 ?_
        refine yn_iald hx hb hK hP 3 0 rfl rfl (j := q) (x := nI (t q)) (rfl) (by omega) (by omega) d_M_pass_19 ?_
        refine y_call (y_runS (As := [.int (nI (t q))]) (rest := []) hx hb hml hown (c_M_isBlank l G  (nI (t q)) ) (gS (n := 1) hg tk_794 tk_795 tk_7 tk_796 (by decide +kernel) ⟨Nat.le_of_ble_eq_true rfl, Nat.le_of_ble_eq_true rfl⟩) (y_pre hE hK hP hD hS hA [] rfl rfl) rfl rfl hl.1 rfl (lv_room (Nat.le_of_ble_eq_true rfl)) d_M_pass_20 ⟨Nat.le_of_ble_eq_true rfl, Nat.le_of_ble_eq_true rfl⟩) hP hD hS hA [] rfl (fun _ _ _ _ _ _ hp => False.elim hp) (fun v9 w9 H locs hp hlw hP hD hS => ?_)
        obtain ⟨rfl, rfl⟩ := hp
        have hP : va_P (gD G) vwC (wMR G h dg mp ml th n t pl pn xy pt sz rs ou wr sl q fk fp va oa oc ok xs ys) H := hP
        have hD : va_D A (wMR G h dg mp ml th n t pl pn xy pt sz rs ou wr sl q fk fp va oa oc ok xs ys) := hD
        refine W.eq (g2 := F0 mm 23 ls [.int (bz (isBl (nI (t q))))]) rfl ?_
        refine yy_if_eq (P := isBl (nI (t q))) (tgt := 39) hx hb d_M_pass_23 (by decide) (fun c23 => ?_) (fun c23 => ?_)
        · skip
          have e9 : q = rn blN t n p := by rw [← hq3]; exact (rn_stop (fun z => by first | omega | (rw [← (ch_n _ (ht q)).1] at z; rw [c23] at z; exact absurd z.2 (by decide)))).symm
          rw [e9] at hP hD
          exact yr_v (ws := wMR G h dg mp ml th n t pl pn xy pt sz rs ou wr sl (rn blN t n p) fk fp va oa oc ok xs ys) hx hb hrt hlocks (⟨rfl, rfl⟩) rfl hK hP hD hS d_M_pass_39
        · skip
          refine lv_aload_n hx hb d_M_pass_26 rfl (lv_at hl 0 rfl) ?_
          refine lv_dup hx hb d_M_pass_27 rfl ?_
          refine va_get (D := gD G) (ci := 5) (v := .int (nI q)) (C := "WordShapesModel") (T := TM) (N := 24) hx hb hg iw_M hown hK hP 0 rfl rfl 17 (by decide) (hg _ tk_700) (fun _ h9 => h9) rfl d_M_pass_28 ?_
          refine lv_iconst (v := nI 1) hx hb d_M_pass_31 (by decide) ?_
          refine lv_iadd hx hb d_M_pass_32 ?_
          refine y_eqi (nI_add _ _) ?_
          refine va_put (D := gD G) (ci := 5) (v := .int (nI (q + 1))) (ty := .int) (C := "WordShapesModel") (T := TM) (N := 24) hx hb hg iw_M ft_M fo_M nm_M hown hK hP hD hS 0 rfl rfl 17 (by decide) (hg _ tk_700) (fun _ h9 => h9) rfl (by decide +kernel) (rfl) (rfl) (Nat.le_of_ble_eq_true rfl) d_M_pass_33 (fun H locs hP hD hS => ?_)
          have hP : va_P (gD G) vwC (wMR G h dg mp ml th n t pl pn xy pt sz rs ou wr sl (q + 1) fk fp va oa oc ok xs ys) H := hP
          have hD : va_D A (wMR G h dg mp ml th n t pl pn xy pt sz rs ou wr sl (q + 1) fk fp va oa oc ok xs ys) := hD
          refine lv_goto (tgt := 0) hx hb d_M_pass_36 (by decide) ?_
          exact ih9 (q + 1) (by omega) (by omega) (by omega) ((rn_step (by omega) (by rw [← (ch_n _ (ht q)).1]; exact c23)).symm.trans hq3) _ _ _ hP hD hS (lv_sub hl [0] (rfl))
  exact J0 _ p (Nat.lt_succ_self _) (by omega) (by omega) (rfl) _ _ _ hP hD hS (lv_sub hl [0] (rfl))
set_option maxHeartbeats 4000000 in
set_option maxRecDepth 100000 in
theorem c_M_wrong (l : Launch) (G : gl) (h : Nat → Nat) (dg : Nat) (mp : Nat) (ml : Nat) (th : Nat) (n : Nat) (t : Nat → Nat) (pl : Nat → Int32) (pn : Nat → Nat) (xy : Nat → Int32) (pt : Nat → Nat) (sz : Nat) (rs : Nat → Nat) (ou : Nat → Nat) (wr : Nat) (sl : Nat) (p : Nat) (fk : Nat) (fp : Nat) (va : Int32) (oa : Nat → Int32) (oc : Nat → Int32) (ok : Nat → Int32) (xs : List Int32) (ys : List (Int32 × Int32)) (a : Nat) (b : Nat)  : YC l G y_M_wrong k_M_wrong 3 (Option.some FieldType.boolean) 0 0 [.ref (h 0), .int (nI a), .int (nI b)] (wMR G h dg mp ml th n t pl pn xy pt sz rs ou wr sl p fk fp va oa oc ok xs ys) (fun v w => v = some (.int (nI 0)) ∧ w = wMR G h dg mp ml th n t pl pn xy pt sz rs ou wr sl p a b va oa oc ok xs ys) (fun _ _ => False) := by
  refine yc_of (by decide) ?_
  intro pg ev sx mm bl mt cd A C0 hP hD
  obtain ⟨hx, hb, hrt, hml, hown, hg, hlocks, hxt, hE, hK, hA, hmn⟩ := C0
  have hS : va_S A sx.heap sx.heap [] := va_S.rf
  have hl := lv_entry ([.ref (h 0), .int (nI a), .int (nI b)]) (n := 3) (Nat.le_of_ble_eq_true rfl)
  rw [lg_entry_eq]
  generalize (lg_sl ([.ref (h 0), .int (nI a), .int (nI b)]) ++ List.replicate (3 - (lg_sl ([.ref (h 0), .int (nI a), .int (nI b)])).length) Slot.unset).toArray = ls at hl ⊢
  have hl : lv_has ls 3 [(0, .ref (h 0)), (1, .int (nI a)), (2, .int (nI b))] := hl
  obtain ⟨H, hH⟩ : ∃ H, H = sx.heap := ⟨_, rfl⟩
  rw [← hH] at hP
  have hS : va_S A sx.heap H [] := by rw [hH]; exact hS
  suffices h9 : W pg l ev (yR 0 0) sx mm _ bl mt cd H [] 0 0 (yMQ bl G A _ _ _ _ sx) (F0 mm 0 ls []) by rw [hH] at h9; exact h9
  obtain ⟨locs, hlo⟩ : ∃ locs : List Loc, locs = [] := ⟨_, rfl⟩
  rw [← hlo] at hS ⊢
  refine lv_aload_n hx hb d_M_wrong_0 rfl (lv_at hl 0 rfl) ?_
  refine lv_iload_n hx hb d_M_wrong_1 rfl (lv_at hl 1 rfl) ?_
  refine va_put (D := gD G) (ci := 5) (v := .int (nI a)) (ty := .int) (C := "WordShapesModel") (T := TM) (N := 24) hx hb hg iw_M ft_M fo_M nm_M hown hK hP hD hS 0 rfl rfl 18 (by decide) (hg _ tk_701) (fun _ h9 => h9) rfl (by decide +kernel) (rfl) (rfl) (Nat.le_of_ble_eq_true rfl) d_M_wrong_2 (fun H locs hP hD hS => ?_)
  have hP : va_P (gD G) vwC (wMR G h dg mp ml th n t pl pn xy pt sz rs ou wr sl p a fp va oa oc ok xs ys) H := hP
  have hD : va_D A (wMR G h dg mp ml th n t pl pn xy pt sz rs ou wr sl p a fp va oa oc ok xs ys) := hD
  refine lv_aload_n hx hb d_M_wrong_5 rfl (lv_at hl 0 rfl) ?_
  refine lv_iload_n hx hb d_M_wrong_6 rfl (lv_at hl 2 rfl) ?_
  refine va_put (D := gD G) (ci := 5) (v := .int (nI b)) (ty := .int) (C := "WordShapesModel") (T := TM) (N := 24) hx hb hg iw_M ft_M fo_M nm_M hown hK hP hD hS 0 rfl rfl 19 (by decide) (hg _ tk_702) (fun _ h9 => h9) rfl (by decide +kernel) (rfl) (rfl) (Nat.le_of_ble_eq_true rfl) d_M_wrong_7 (fun H locs hP hD hS => ?_)
  have hP : va_P (gD G) vwC (wMR G h dg mp ml th n t pl pn xy pt sz rs ou wr sl p a b va oa oc ok xs ys) H := hP
  have hD : va_D A (wMR G h dg mp ml th n t pl pn xy pt sz rs ou wr sl p a b va oa oc ok xs ys) := hD
  refine lv_iconst (v := nI 0) hx hb d_M_wrong_10 (by decide) ?_
  exact yr_z (ws := wMR G h dg mp ml th n t pl pn xy pt sz rs ou wr sl p a b va oa oc ok xs ys) hx hb hrt (rfl) hlocks (⟨rfl, rfl⟩) rfl hK hP hD hS d_M_wrong_11
set_option maxHeartbeats 4000000 in
set_option maxRecDepth 100000 in
theorem c_M_unexpected (l : Launch) (G : gl) (h : Nat → Nat) (dg : Nat) (mp : Nat) (ml : Nat) (th : Nat) (n : Nat) (t : Nat → Nat) (pl : Nat → Int32) (pn : Nat → Nat) (xy : Nat → Int32) (pt : Nat → Nat) (sz : Nat) (rs : Nat → Nat) (ou : Nat → Nat) (wr : Nat) (sl : Nat) (p : Nat) (fk : Nat) (fp : Nat) (va : Int32) (oa : Nat → Int32) (oc : Nat → Int32) (ok : Nat → Int32) (xs : List Int32) (ys : List (Int32 × Int32))  (hn : n ≤ 65536) (hp : p ≤ n) (ht : ∀ i, t i < 256) : YC l G y_M_unexpected k_M_unexpected 1 (Option.some FieldType.boolean) 3 62 [.ref (h 0)] (wMR G h dg mp ml th n t pl pn xy pt sz rs ou wr sl p fk fp va oa oc ok xs ys) (fun v w => v = some (.int (nI 0)) ∧ w = wMR G h dg mp ml th n t pl pn xy pt sz rs ou wr sl p (uxp (hr t n p)) p va oa oc ok xs ys) (fun _ _ => False) := by
  refine yc_of (by decide) ?_
  intro pg ev sx mm bl mt cd A C0 hP hD
  obtain ⟨hx, hb, hrt, hml, hown, hg, hlocks, hxt, hE, hK, hA, hmn⟩ := C0
  have hS : va_S A sx.heap sx.heap [] := va_S.rf
  have hl := lv_entry ([.ref (h 0)]) (n := 1) (Nat.le_of_ble_eq_true rfl)
  rw [lg_entry_eq]
  generalize (lg_sl ([.ref (h 0)]) ++ List.replicate (1 - (lg_sl ([.ref (h 0)])).length) Slot.unset).toArray = ls at hl ⊢
  have hl : lv_has ls 1 [(0, .ref (h 0))] := hl
  obtain ⟨H, hH⟩ : ∃ H, H = sx.heap := ⟨_, rfl⟩
  rw [← hH] at hP
  have hS : va_S A sx.heap H [] := by rw [hH]; exact hS
  suffices h9 : W pg l ev (yR 3 62) sx mm _ bl mt cd H [] 0 0 (yMQ bl G A _ _ _ _ sx) (F0 mm 0 ls []) by rw [hH] at h9; exact h9
  obtain ⟨locs, hlo⟩ : ∃ locs : List Loc, locs = [] := ⟨_, rfl⟩
  rw [← hlo] at hS ⊢
  refine lv_aload_n hx hb d_M_unexpected_0 rfl (lv_at hl 0 rfl) ?_
  refine lv_aload_n hx hb d_M_unexpected_1 rfl (lv_at hl 0 rfl) ?_
  refine y_callW (y_runV (As := []) (rest := [.ref (h 0)]) hx hb hml hown (c_M_here l G h dg mp ml th n t pl pn xy pt sz rs ou wr sl p fk fp va oa oc ok xs ys  (by omega) (by omega) (ht)) (gV (n := 0) hg tk_797 tk_799 (gt_s 35 (by decide +kernel) (by decide +kernel)) tk_7 tk_800 (by decide +kernel) ⟨Nat.le_of_ble_eq_true rfl, Nat.le_of_ble_eq_true rfl⟩) (va_recv hK hP (ci := 5) (q0 := 0) rfl rfl) (y_preW hE hK hP hD hS hA) rfl rfl hl.1 rfl (lv_room (Nat.le_of_ble_eq_true rfl)) d_M_unexpected_2 ⟨Nat.le_of_ble_eq_true rfl, Nat.le_of_ble_eq_true rfl⟩) hD hS hA (fun _ _ _ _ _ _ hp => False.elim hp) (fun v9 w9 H locs hp hlw hP hD hS => ?_)
  obtain ⟨rfl, rfl⟩ := hp
  have hP : va_P (gD G) vwC (wMR G h dg mp ml th n t pl pn xy pt sz rs ou wr sl p fk fp va oa oc ok xs ys) H := hP
  have hD : va_D A (wMR G h dg mp ml th n t pl pn xy pt sz rs ou wr sl p fk fp va oa oc ok xs ys) := hD
  refine W.eq (g2 := F0 mm 5 ls [.int (toI (hr t n p)), .ref (h 0)]) rfl ?_
  refine lv_iconst (v := (-1)) hx hb d_M_unexpected_5 (by decide) ?_
  refine ye_icmp_eq (a := hr t n p) (tgt := 19) hx hb d_M_unexpected_6 (by decide) (hr_le ht _ _) (fun c6 => ?_) (fun c6 => ?_)
  · skip
    refine lv_iconst (v := nI 3) hx hb d_M_unexpected_19 (by decide) ?_
    refine lv_goto (tgt := 24) hx hb d_M_unexpected_20 (by decide) ?_
    refine lv_aload_n hx hb d_M_unexpected_24 rfl (lv_at hl 0 rfl) ?_
    refine va_get (D := gD G) (ci := 5) (v := .int (nI p)) (C := "WordShapesModel") (T := TM) (N := 24) hx hb hg iw_M hown hK hP 0 rfl rfl 17 (by decide) (hg _ tk_700) (fun _ h9 => h9) rfl d_M_unexpected_25 ?_
    refine y_callW (y_runV (As := [.int (nI 3), .int (nI p)]) (rest := []) hx hb hml hown (c_M_wrong l G h dg mp ml th n t pl pn xy pt sz rs ou wr sl p fk fp va oa oc ok xs ys 3 p ) (gV (n := 2) hg tk_817 tk_819 (gt_s 37 (by decide +kernel) (by decide +kernel)) tk_7 tk_820 (by decide +kernel) ⟨Nat.le_of_ble_eq_true rfl, Nat.le_of_ble_eq_true rfl⟩) (va_recv hK hP (ci := 5) (q0 := 0) rfl rfl) (y_preW hE hK hP hD hS hA) rfl rfl hl.1 rfl (lv_room (Nat.le_of_ble_eq_true rfl)) d_M_unexpected_28 ⟨Nat.le_of_ble_eq_true rfl, Nat.le_of_ble_eq_true rfl⟩) hD hS hA (fun _ _ _ _ _ _ hp => False.elim hp) (fun v9 w9 H locs hp hlw hP hD hS => ?_)
    obtain ⟨rfl, rfl⟩ := hp
    have hP : va_P (gD G) vwC (wMR G h dg mp ml th n t pl pn xy pt sz rs ou wr sl p 3 p va oa oc ok xs ys) H := hP
    have hD : va_D A (wMR G h dg mp ml th n t pl pn xy pt sz rs ou wr sl p 3 p va oa oc ok xs ys) := hD
    refine W.eq (g2 := F0 mm 31 ls [.int (nI 0)]) rfl ?_
    exact yr_z (ws := wMR G h dg mp ml th n t pl pn xy pt sz rs ou wr sl p 3 p va oa oc ok xs ys) hx hb hrt (rfl) hlocks (⟨rfl, by rw [ch_k _ (Nat.lt_succ_of_le (hr_le ht _ _))]; first | rw [if_pos (Or.inl c6)] | rw [if_pos (Or.inr c16)] | rw [if_neg (fun z => z.elim c6 (by rw [c16]; decide))]⟩) rfl hK hP hD hS d_M_unexpected_31
  · skip
    refine lv_aload_n hx hb d_M_unexpected_9 rfl (lv_at hl 0 rfl) ?_
    refine y_callW (y_runV (As := []) (rest := [.ref (h 0)]) hx hb hml hown (c_M_here l G h dg mp ml th n t pl pn xy pt sz rs ou wr sl p fk fp va oa oc ok xs ys  (by omega) (by omega) (ht)) (gV (n := 0) hg tk_797 tk_799 (gt_s 35 (by decide +kernel) (by decide +kernel)) tk_7 tk_800 (by decide +kernel) ⟨Nat.le_of_ble_eq_true rfl, Nat.le_of_ble_eq_true rfl⟩) (va_recv hK hP (ci := 5) (q0 := 0) rfl rfl) (y_preW hE hK hP hD hS hA) rfl rfl hl.1 rfl (lv_room (Nat.le_of_ble_eq_true rfl)) d_M_unexpected_10 ⟨Nat.le_of_ble_eq_true rfl, Nat.le_of_ble_eq_true rfl⟩) hD hS hA (fun _ _ _ _ _ _ hp => False.elim hp) (fun v9 w9 H locs hp hlw hP hD hS => ?_)
    obtain ⟨rfl, rfl⟩ := hp
    have hP : va_P (gD G) vwC (wMR G h dg mp ml th n t pl pn xy pt sz rs ou wr sl p fk fp va oa oc ok xs ys) H := hP
    have hD : va_D A (wMR G h dg mp ml th n t pl pn xy pt sz rs ou wr sl p fk fp va oa oc ok xs ys) := hD
    refine W.eq (g2 := F0 mm 13 ls [.int (toI (hr t n p)), .ref (h 0)]) rfl ?_
    refine y_call (y_runS (As := [.int (toI (hr t n p))]) (rest := [.ref (h 0)]) hx hb hml hown (c_M_isKnown l G  (toI (hr t n p)) ) (gS (n := 1) hg tk_808 tk_809 tk_7 tk_810 (by decide +kernel) ⟨Nat.le_of_ble_eq_true rfl, Nat.le_of_ble_eq_true rfl⟩) (y_pre hE hK hP hD hS hA [] rfl rfl) rfl rfl hl.1 rfl (lv_room (Nat.le_of_ble_eq_true rfl)) d_M_unexpected_13 ⟨Nat.le_of_ble_eq_true rfl, Nat.le_of_ble_eq_true rfl⟩) hP hD hS hA [] rfl (fun _ _ _ _ _ _ hp => False.elim hp) (fun v9 w9 H locs hp hlw hP hD hS => ?_)
    obtain ⟨rfl, rfl⟩ := hp
    have hP : va_P (gD G) vwC (wMR G h dg mp ml th n t pl pn xy pt sz rs ou wr sl p fk fp va oa oc ok xs ys) H := hP
    have hD : va_D A (wMR G h dg mp ml th n t pl pn xy pt sz rs ou wr sl p fk fp va oa oc ok xs ys) := hD
    refine W.eq (g2 := F0 mm 16 ls [.int (bz (isKn (toI (hr t n p)))), .ref (h 0)]) rfl ?_
    refine yy_if_eq (P := isKn (toI (hr t n p))) (tgt := 23) hx hb d_M_unexpected_16 (by decide) (fun c16 => ?_) (fun c16 => ?_)
    · skip
      refine lv_iconst (v := nI 1) hx hb d_M_unexpected_23 (by decide) ?_
      refine lv_aload_n hx hb d_M_unexpected_24 rfl (lv_at hl 0 rfl) ?_
      refine va_get (D := gD G) (ci := 5) (v := .int (nI p)) (C := "WordShapesModel") (T := TM) (N := 24) hx hb hg iw_M hown hK hP 0 rfl rfl 17 (by decide) (hg _ tk_700) (fun _ h9 => h9) rfl d_M_unexpected_25 ?_
      refine y_callW (y_runV (As := [.int (nI 1), .int (nI p)]) (rest := []) hx hb hml hown (c_M_wrong l G h dg mp ml th n t pl pn xy pt sz rs ou wr sl p fk fp va oa oc ok xs ys 1 p ) (gV (n := 2) hg tk_817 tk_819 (gt_s 37 (by decide +kernel) (by decide +kernel)) tk_7 tk_820 (by decide +kernel) ⟨Nat.le_of_ble_eq_true rfl, Nat.le_of_ble_eq_true rfl⟩) (va_recv hK hP (ci := 5) (q0 := 0) rfl rfl) (y_preW hE hK hP hD hS hA) rfl rfl hl.1 rfl (lv_room (Nat.le_of_ble_eq_true rfl)) d_M_unexpected_28 ⟨Nat.le_of_ble_eq_true rfl, Nat.le_of_ble_eq_true rfl⟩) hD hS hA (fun _ _ _ _ _ _ hp => False.elim hp) (fun v9 w9 H locs hp hlw hP hD hS => ?_)
      obtain ⟨rfl, rfl⟩ := hp
      have hP : va_P (gD G) vwC (wMR G h dg mp ml th n t pl pn xy pt sz rs ou wr sl p 1 p va oa oc ok xs ys) H := hP
      have hD : va_D A (wMR G h dg mp ml th n t pl pn xy pt sz rs ou wr sl p 1 p va oa oc ok xs ys) := hD
      refine W.eq (g2 := F0 mm 31 ls [.int (nI 0)]) rfl ?_
      exact yr_z (ws := wMR G h dg mp ml th n t pl pn xy pt sz rs ou wr sl p 1 p va oa oc ok xs ys) hx hb hrt (rfl) hlocks (⟨rfl, by rw [ch_k _ (Nat.lt_succ_of_le (hr_le ht _ _))]; first | rw [if_pos (Or.inl c6)] | rw [if_pos (Or.inr c16)] | rw [if_neg (fun z => z.elim c6 (by rw [c16]; decide))]⟩) rfl hK hP hD hS d_M_unexpected_31
    · skip
      refine lv_iconst (v := nI 3) hx hb d_M_unexpected_19 (by decide) ?_
      refine lv_goto (tgt := 24) hx hb d_M_unexpected_20 (by decide) ?_
      refine lv_aload_n hx hb d_M_unexpected_24 rfl (lv_at hl 0 rfl) ?_
      refine va_get (D := gD G) (ci := 5) (v := .int (nI p)) (C := "WordShapesModel") (T := TM) (N := 24) hx hb hg iw_M hown hK hP 0 rfl rfl 17 (by decide) (hg _ tk_700) (fun _ h9 => h9) rfl d_M_unexpected_25 ?_
      refine y_callW (y_runV (As := [.int (nI 3), .int (nI p)]) (rest := []) hx hb hml hown (c_M_wrong l G h dg mp ml th n t pl pn xy pt sz rs ou wr sl p fk fp va oa oc ok xs ys 3 p ) (gV (n := 2) hg tk_817 tk_819 (gt_s 37 (by decide +kernel) (by decide +kernel)) tk_7 tk_820 (by decide +kernel) ⟨Nat.le_of_ble_eq_true rfl, Nat.le_of_ble_eq_true rfl⟩) (va_recv hK hP (ci := 5) (q0 := 0) rfl rfl) (y_preW hE hK hP hD hS hA) rfl rfl hl.1 rfl (lv_room (Nat.le_of_ble_eq_true rfl)) d_M_unexpected_28 ⟨Nat.le_of_ble_eq_true rfl, Nat.le_of_ble_eq_true rfl⟩) hD hS hA (fun _ _ _ _ _ _ hp => False.elim hp) (fun v9 w9 H locs hp hlw hP hD hS => ?_)
      obtain ⟨rfl, rfl⟩ := hp
      have hP : va_P (gD G) vwC (wMR G h dg mp ml th n t pl pn xy pt sz rs ou wr sl p 3 p va oa oc ok xs ys) H := hP
      have hD : va_D A (wMR G h dg mp ml th n t pl pn xy pt sz rs ou wr sl p 3 p va oa oc ok xs ys) := hD
      refine W.eq (g2 := F0 mm 31 ls [.int (nI 0)]) rfl ?_
      exact yr_z (ws := wMR G h dg mp ml th n t pl pn xy pt sz rs ou wr sl p 3 p va oa oc ok xs ys) hx hb hrt (rfl) hlocks (⟨rfl, by rw [ch_k _ (Nat.lt_succ_of_le (hr_le ht _ _))]; first | rw [if_pos (Or.inl c6)] | rw [if_pos (Or.inr c16)] | rw [if_neg (fun z => z.elim c6 (by rw [c16]; decide))]⟩) rfl hK hP hD hS d_M_unexpected_31
set_option maxHeartbeats 4000000 in
set_option maxRecDepth 100000 in
theorem c_M_must (l : Launch) (G : gl) (h : Nat → Nat) (dg : Nat) (mp : Nat) (ml : Nat) (th : Nat) (n : Nat) (t : Nat → Nat) (pl : Nat → Int32) (pn : Nat → Nat) (xy : Nat → Int32) (pt : Nat → Nat) (sz : Nat) (rs : Nat → Nat) (ou : Nat → Nat) (wr : Nat) (sl : Nat) (p : Nat) (fk : Nat) (fp : Nat) (va : Int32) (oa : Nat → Int32) (oc : Nat → Int32) (ok : Nat → Int32) (xs : List Int32) (ys : List (Int32 × Int32)) (x : Nat) (hn : n ≤ 65536) (hp : p ≤ n) (ht : ∀ i, t i < 256) (hx9 : x < 256) : YC l G y_M_must k_M_must 2 (Option.some FieldType.boolean) 4 82 [.ref (h 0), .int (nI x)] (wMR G h dg mp ml th n t pl pn xy pt sz rs ou wr sl p fk fp va oa oc ok xs ys) (fun v w => ((hr t n (rn blN t n p) = x) ∧ v = some (.int (nI 1)) ∧ w = wMR G h dg mp ml th n t pl pn xy pt sz rs ou wr sl (rn blN t n p + 1) fk fp va oa oc ok xs ys) ∨ ((¬ hr t n (rn blN t n p) = x) ∧ v = some (.int (nI 0)) ∧ w = wMR G h dg mp ml th n t pl pn xy pt sz rs ou wr sl (rn blN t n p) (uxp (hr t n (rn blN t n p))) (rn blN t n p) va oa oc ok xs ys)) (fun _ _ => False) := by
  refine yc_of (by decide) ?_
  intro pg ev sx mm bl mt cd A C0 hP hD
  obtain ⟨hx, hb, hrt, hml, hown, hg, hlocks, hxt, hE, hK, hA, hmn⟩ := C0
  have hS : va_S A sx.heap sx.heap [] := va_S.rf
  have hl := lv_entry ([.ref (h 0), .int (nI x)]) (n := 2) (Nat.le_of_ble_eq_true rfl)
  rw [lg_entry_eq]
  generalize (lg_sl ([.ref (h 0), .int (nI x)]) ++ List.replicate (2 - (lg_sl ([.ref (h 0), .int (nI x)])).length) Slot.unset).toArray = ls at hl ⊢
  have hl : lv_has ls 2 [(0, .ref (h 0)), (1, .int (nI x))] := hl
  have b1 := rn_ge (P := blN) (t := t) (n := n) (p := p) hp
  have b2 := rn_le (P := blN) (t := t) (n := n) (p := p) hp
  obtain ⟨H, hH⟩ : ∃ H, H = sx.heap := ⟨_, rfl⟩
  rw [← hH] at hP
  have hS : va_S A sx.heap H [] := by rw [hH]; exact hS
  suffices h9 : W pg l ev (yR 4 82) sx mm _ bl mt cd H [] 0 0 (yMQ bl G A _ _ _ _ sx) (F0 mm 0 ls []) by rw [hH] at h9; exact h9
  obtain ⟨locs, hlo⟩ : ∃ locs : List Loc, locs = [] := ⟨_, rfl⟩
  rw [← hlo] at hS ⊢
  refine lv_aload_n hx hb d_M_must_0 rfl (lv_at hl 0 rfl) ?_
  refine y_callW (y_runV (As := []) (rest := []) hx hb hml hown (c_M_pass l G h dg mp ml th n t pl pn xy pt sz rs ou wr sl p fk fp va oa oc ok xs ys  (by omega) (by omega) (ht)) (gV (n := 0) hg tk_790 tk_792 (gt_s 34 (by decide +kernel) (by decide +kernel)) tk_7 tk_793 (by decide +kernel) ⟨Nat.le_of_ble_eq_true rfl, Nat.le_of_ble_eq_true rfl⟩) (va_recv hK hP (ci := 5) (q0 := 0) rfl rfl) (y_preW hE hK hP hD hS hA) rfl rfl hl.1 rfl (lv_room (Nat.le_of_ble_eq_true rfl)) d_M_must_1 ⟨Nat.le_of_ble_eq_true rfl, Nat.le_of_ble_eq_true rfl⟩) hD hS hA (fun _ _ _ _ _ _ hp => False.elim hp) (fun v9 w9 H locs hp hlw hP hD hS => ?_)
  obtain ⟨rfl, rfl⟩ := hp
  have hP : va_P (gD G) vwC (wMR G h dg mp ml th n t pl pn xy pt sz rs ou wr sl (rn blN t n p) fk fp va oa oc ok xs ys) H := hP
  have hD : va_D A (wMR G h dg mp ml th n t pl pn xy pt sz rs ou wr sl (rn blN t n p) fk fp va oa oc ok xs ys) := hD
  refine W.eq (g2 := F0 mm 4 ls []) rfl ?_
  refine lv_aload_n hx hb d_M_must_4 rfl (lv_at hl 0 rfl) ?_
  refine y_callW (y_runV (As := []) (rest := []) hx hb hml hown (c_M_here l G h dg mp ml th n t pl pn xy pt sz rs ou wr sl (rn blN t n p) fk fp va oa oc ok xs ys  (by omega) (by omega) (ht)) (gV (n := 0) hg tk_797 tk_799 (gt_s 35 (by decide +kernel) (by decide +kernel)) tk_7 tk_800 (by decide +kernel) ⟨Nat.le_of_ble_eq_true rfl, Nat.le_of_ble_eq_true rfl⟩) (va_recv hK hP (ci := 5) (q0 := 0) rfl rfl) (y_preW hE hK hP hD hS hA) rfl rfl hl.1 rfl (lv_room (Nat.le_of_ble_eq_true rfl)) d_M_must_5 ⟨Nat.le_of_ble_eq_true rfl, Nat.le_of_ble_eq_true rfl⟩) hD hS hA (fun _ _ _ _ _ _ hp => False.elim hp) (fun v9 w9 H locs hp hlw hP hD hS => ?_)
  obtain ⟨rfl, rfl⟩ := hp
  have hP : va_P (gD G) vwC (wMR G h dg mp ml th n t pl pn xy pt sz rs ou wr sl (rn blN t n p) fk fp va oa oc ok xs ys) H := hP
  have hD : va_D A (wMR G h dg mp ml th n t pl pn xy pt sz rs ou wr sl (rn blN t n p) fk fp va oa oc ok xs ys) := hD
  refine W.eq (g2 := F0 mm 8 ls [.int (toI (hr t n (rn blN t n p)))]) rfl ?_
  refine lv_iload_n hx hb d_M_must_8 rfl (lv_at hl 1 rfl) ?_
  refine yh_icmp_eq (a := hr t n (rn blN t n p)) (b := x) (tgt := 17) hx hb d_M_must_9 (by decide) (hr_le ht _ _) (by omega) (fun c9 => ?_) (fun c9 => ?_)
  · skip
    have h9 := hr_lt c9 (by omega)
    refine lv_aload_n hx hb d_M_must_17 rfl (lv_at hl 0 rfl) ?_
    refine lv_dup hx hb d_M_must_18 rfl ?_
    refine va_get (D := gD G) (ci := 5) (v := .int (nI (rn blN t n p))) (C := "WordShapesModel") (T := TM) (N := 24) hx hb hg iw_M hown hK hP 0 rfl rfl 17 (by decide) (hg _ tk_700) (fun _ h9 => h9) rfl d_M_must_19 ?_
    refine lv_iconst (v := nI 1) hx hb d_M_must_22 (by decide) ?_
    refine lv_iadd hx hb d_M_must_23 ?_
    refine y_eqi (nI_add _ _) ?_
    refine va_put (D := gD G) (ci := 5) (v := .int (nI (rn blN t n p + 1))) (ty := .int) (C := "WordShapesModel") (T := TM) (N := 24) hx hb hg iw_M ft_M fo_M nm_M hown hK hP hD hS 0 rfl rfl 17 (by decide) (hg _ tk_700) (fun _ h9 => h9) rfl (by decide +kernel) (rfl) (rfl) (Nat.le_of_ble_eq_true rfl) d_M_must_24 (fun H locs hP hD hS => ?_)
    have hP : va_P (gD G) vwC (wMR G h dg mp ml th n t pl pn xy pt sz rs ou wr sl (rn blN t n p + 1) fk fp va oa oc ok xs ys) H := hP
    have hD : va_D A (wMR G h dg mp ml th n t pl pn xy pt sz rs ou wr sl (rn blN t n p + 1) fk fp va oa oc ok xs ys) := hD
    refine lv_iconst (v := nI 1) hx hb d_M_must_27 (by decide) ?_
    exact yr_z (ws := wMR G h dg mp ml th n t pl pn xy pt sz rs ou wr sl (rn blN t n p + 1) fk fp va oa oc ok xs ys) hx hb hrt (rfl) hlocks (Or.inl ⟨c9, rfl, rfl⟩) rfl hK hP hD hS d_M_must_28
  · skip
    refine lv_aload_n hx hb d_M_must_12 rfl (lv_at hl 0 rfl) ?_
    refine y_callW (y_runV (As := []) (rest := []) hx hb hml hown (c_M_unexpected l G h dg mp ml th n t pl pn xy pt sz rs ou wr sl (rn blN t n p) fk fp va oa oc ok xs ys  (by omega) (by omega) (ht)) (gV (n := 0) hg tk_804 tk_806 (gt_s 36 (by decide +kernel) (by decide +kernel)) tk_7 tk_807 (by decide +kernel) ⟨Nat.le_of_ble_eq_true rfl, Nat.le_of_ble_eq_true rfl⟩) (va_recv hK hP (ci := 5) (q0 := 0) rfl rfl) (y_preW hE hK hP hD hS hA) rfl rfl hl.1 rfl (lv_room (Nat.le_of_ble_eq_true rfl)) d_M_must_13 ⟨Nat.le_of_ble_eq_true rfl, Nat.le_of_ble_eq_true rfl⟩) hD hS hA (fun _ _ _ _ _ _ hp => False.elim hp) (fun v9 w9 H locs hp hlw hP hD hS => ?_)
    obtain ⟨rfl, rfl⟩ := hp
    have hP : va_P (gD G) vwC (wMR G h dg mp ml th n t pl pn xy pt sz rs ou wr sl (rn blN t n p) (uxp (hr t n (rn blN t n p))) (rn blN t n p) va oa oc ok xs ys) H := hP
    have hD : va_D A (wMR G h dg mp ml th n t pl pn xy pt sz rs ou wr sl (rn blN t n p) (uxp (hr t n (rn blN t n p))) (rn blN t n p) va oa oc ok xs ys) := hD
    refine W.eq (g2 := F0 mm 16 ls [.int (nI 0)]) rfl ?_
    exact yr_z (ws := wMR G h dg mp ml th n t pl pn xy pt sz rs ou wr sl (rn blN t n p) (uxp (hr t n (rn blN t n p))) (rn blN t n p) va oa oc ok xs ys) hx hb hrt (rfl) hlocks (Or.inr ⟨c9, rfl, rfl⟩) rfl hK hP hD hS d_M_must_16
set_option maxHeartbeats 4000000 in
set_option maxRecDepth 100000 in
theorem c_M_goesOn (l : Launch) (G : gl) (h : Nat → Nat) (dg : Nat) (mp : Nat) (ml : Nat) (th : Nat) (n : Nat) (t : Nat → Nat) (pl : Nat → Int32) (pn : Nat → Nat) (xy : Nat → Int32) (pt : Nat → Nat) (sz : Nat) (rs : Nat → Nat) (ou : Nat → Nat) (wr : Nat) (sl : Nat) (p : Nat) (fk : Nat) (fp : Nat) (va : Int32) (oa : Nat → Int32) (oc : Nat → Int32) (ok : Nat → Int32) (xs : List Int32) (ys : List (Int32 × Int32))  (hn : n ≤ 65536) (hp : p ≤ n) (ht : ∀ i, t i < 256) : YC l G y_M_goesOn k_M_goesOn 1 (Option.some FieldType.int) 4 82 [.ref (h 0)] (wMR G h dg mp ml th n t pl pn xy pt sz rs ou wr sl p fk fp va oa oc ok xs ys) (fun v w => ((hr t n (rn blN t n p) = 44) ∧ v = some (.int (nI 1)) ∧ w = wMR G h dg mp ml th n t pl pn xy pt sz rs ou wr sl (rn blN t n p + 1) fk fp va oa oc ok xs ys) ∨ ((hr t n (rn blN t n p) = 41) ∧ v = some (.int (nI 0)) ∧ w = wMR G h dg mp ml th n t pl pn xy pt sz rs ou wr sl (rn blN t n p + 1) fk fp va oa oc ok xs ys) ∨ ((¬ hr t n (rn blN t n p) = 44 ∧ ¬ hr t n (rn blN t n p) = 41) ∧ v = some (.int (-1)) ∧ w = wMR G h dg mp ml th n t pl pn xy pt sz rs ou wr sl (rn blN t n p) (uxp (hr t n (rn blN t n p))) (rn blN t n p) va oa oc ok xs ys)) (fun _ _ => False) := by
  refine yc_of (by decide) ?_
  intro pg ev sx mm bl mt cd A C0 hP hD
  obtain ⟨hx, hb, hrt, hml, hown, hg, hlocks, hxt, hE, hK, hA, hmn⟩ := C0
  have hS : va_S A sx.heap sx.heap [] := va_S.rf
  have hl := lv_entry ([.ref (h 0)]) (n := 1) (Nat.le_of_ble_eq_true rfl)
  rw [lg_entry_eq]
  generalize (lg_sl ([.ref (h 0)]) ++ List.replicate (1 - (lg_sl ([.ref (h 0)])).length) Slot.unset).toArray = ls at hl ⊢
  have hl : lv_has ls 1 [(0, .ref (h 0))] := hl
  have b1 := rn_ge (P := blN) (t := t) (n := n) (p := p) hp
  have b2 := rn_le (P := blN) (t := t) (n := n) (p := p) hp
  obtain ⟨H, hH⟩ : ∃ H, H = sx.heap := ⟨_, rfl⟩
  rw [← hH] at hP
  have hS : va_S A sx.heap H [] := by rw [hH]; exact hS
  suffices h9 : W pg l ev (yR 4 82) sx mm _ bl mt cd H [] 0 0 (yMQ bl G A _ _ _ _ sx) (F0 mm 0 ls []) by rw [hH] at h9; exact h9
  obtain ⟨locs, hlo⟩ : ∃ locs : List Loc, locs = [] := ⟨_, rfl⟩
  rw [← hlo] at hS ⊢
  refine lv_aload_n hx hb d_M_goesOn_0 rfl (lv_at hl 0 rfl) ?_
  refine y_callW (y_runV (As := []) (rest := []) hx hb hml hown (c_M_pass l G h dg mp ml th n t pl pn xy pt sz rs ou wr sl p fk fp va oa oc ok xs ys  (by omega) (by omega) (ht)) (gV (n := 0) hg tk_790 tk_792 (gt_s 34 (by decide +kernel) (by decide +kernel)) tk_7 tk_793 (by decide +kernel) ⟨Nat.le_of_ble_eq_true rfl, Nat.le_of_ble_eq_true rfl⟩) (va_recv hK hP (ci := 5) (q0 := 0) rfl rfl) (y_preW hE hK hP hD hS hA) rfl rfl hl.1 rfl (lv_room (Nat.le_of_ble_eq_true rfl)) d_M_goesOn_1 ⟨Nat.le_of_ble_eq_true rfl, Nat.le_of_ble_eq_true rfl⟩) hD hS hA (fun _ _ _ _ _ _ hp => False.elim hp) (fun v9 w9 H locs hp hlw hP hD hS => ?_)
  obtain ⟨rfl, rfl⟩ := hp
  have hP : va_P (gD G) vwC (wMR G h dg mp ml th n t pl pn xy pt sz rs ou wr sl (rn blN t n p) fk fp va oa oc ok xs ys) H := hP
  have hD : va_D A (wMR G h dg mp ml th n t pl pn xy pt sz rs ou wr sl (rn blN t n p) fk fp va oa oc ok xs ys) := hD
  refine W.eq (g2 := F0 mm 4 ls []) rfl ?_
  refine lv_aload_n hx hb d_M_goesOn_4 rfl (lv_at hl 0 rfl) ?_
  refine y_callW (y_runV (As := []) (rest := []) hx hb hml hown (c_M_here l G h dg mp ml th n t pl pn xy pt sz rs ou wr sl (rn blN t n p) fk fp va oa oc ok xs ys  (by omega) (by omega) (ht)) (gV (n := 0) hg tk_797 tk_799 (gt_s 35 (by decide +kernel) (by decide +kernel)) tk_7 tk_800 (by decide +kernel) ⟨Nat.le_of_ble_eq_true rfl, Nat.le_of_ble_eq_true rfl⟩) (va_recv hK hP (ci := 5) (q0 := 0) rfl rfl) (y_preW hE hK hP hD hS hA) rfl rfl hl.1 rfl (lv_room (Nat.le_of_ble_eq_true rfl)) d_M_goesOn_5 ⟨Nat.le_of_ble_eq_true rfl, Nat.le_of_ble_eq_true rfl⟩) hD hS hA (fun _ _ _ _ _ _ hp => False.elim hp) (fun v9 w9 H locs hp hlw hP hD hS => ?_)
  obtain ⟨rfl, rfl⟩ := hp
  have hP : va_P (gD G) vwC (wMR G h dg mp ml th n t pl pn xy pt sz rs ou wr sl (rn blN t n p) fk fp va oa oc ok xs ys) H := hP
  have hD : va_D A (wMR G h dg mp ml th n t pl pn xy pt sz rs ou wr sl (rn blN t n p) fk fp va oa oc ok xs ys) := hD
  refine W.eq (g2 := F0 mm 8 ls [.int (toI (hr t n (rn blN t n p)))]) rfl ?_
  refine lv_bipush (v := nI 44) hx hb d_M_goesOn_8 (by decide) ?_
  refine yh_icmp_eq (a := hr t n (rn blN t n p)) (b := 44) (tgt := 29) hx hb d_M_goesOn_10 (by decide) (hr_le ht _ _) (by omega) (fun c10 => ?_) (fun c10 => ?_)
  · skip
    have h9 : rn blN t n p < n := by first | exact hr_lt c10 (by decide) | exact hr_lt c19 (by decide)
    have h10 : hr t n (rn blN t n p) = t (rn blN t n p) := if_pos h9
    refine lv_aload_n hx hb d_M_goesOn_29 rfl (lv_at hl 0 rfl) ?_
    refine lv_dup hx hb d_M_goesOn_30 rfl ?_
    refine va_get (D := gD G) (ci := 5) (v := .int (nI (rn blN t n p))) (C := "WordShapesModel") (T := TM) (N := 24) hx hb hg iw_M hown hK hP 0 rfl rfl 17 (by decide) (hg _ tk_700) (fun _ h9 => h9) rfl d_M_goesOn_31 ?_
    refine lv_iconst (v := nI 1) hx hb d_M_goesOn_34 (by decide) ?_
    refine lv_iadd hx hb d_M_goesOn_35 ?_
    refine y_eqi (nI_add _ _) ?_
    refine va_put (D := gD G) (ci := 5) (v := .int (nI (rn blN t n p + 1))) (ty := .int) (C := "WordShapesModel") (T := TM) (N := 24) hx hb hg iw_M ft_M fo_M nm_M hown hK hP hD hS 0 rfl rfl 17 (by decide) (hg _ tk_700) (fun _ h9 => h9) rfl (by decide +kernel) (rfl) (rfl) (Nat.le_of_ble_eq_true rfl) d_M_goesOn_36 (fun H locs hP hD hS => ?_)
    have hP : va_P (gD G) vwC (wMR G h dg mp ml th n t pl pn xy pt sz rs ou wr sl (rn blN t n p + 1) fk fp va oa oc ok xs ys) H := hP
    have hD : va_D A (wMR G h dg mp ml th n t pl pn xy pt sz rs ou wr sl (rn blN t n p + 1) fk fp va oa oc ok xs ys) := hD
    refine lv_aload_n hx hb d_M_goesOn_39 rfl (lv_at hl 0 rfl) ?_
    refine va_get (D := gD G) (ci := 5) (v := .ref (h 3)) (C := "WordShapesModel") (T := TM) (N := 24) hx hb hg iw_M hown hK hP 0 rfl rfl 7 (by decide) (hg _ tk_690) (fun _ h9 => h9) rfl d_M_goesOn_40 ?_
    refine lv_aload_n hx hb d_M_goesOn_43 rfl (lv_at hl 0 rfl) ?_
    refine va_get (D := gD G) (ci := 5) (v := .int (nI (rn blN t n p + 1))) (C := "WordShapesModel") (T := TM) (N := 24) hx hb hg iw_M hown hK hP 0 rfl rfl 17 (by decide) (hg _ tk_700) (fun _ h9 => h9) rfl d_M_goesOn_44 ?_
    refine lv_iconst (v := nI 1) hx hb d_M_goesOn_47 (by decide) ?_
    refine lv_isub hx hb d_M_goesOn_48 ?_
    refine y_eqi (y := nI (rn blN t n p)) (pk_sub (by omega)) ?_
    refine yn_iald hx hb hK hP 3 0 rfl rfl (j := rn blN t n p) (x := nI (t (rn blN t n p))) (rfl) (by omega) (by omega) d_M_goesOn_49 ?_
    refine lv_bipush (v := nI 44) hx hb d_M_goesOn_50 (by decide) ?_
    refine yn_icmp_ne (a := t (rn blN t n p)) (b := 44) (tgt := 59) hx hb d_M_goesOn_52 (by decide) (by omega) (by omega) (fun c52 => ?_) (fun c52 => ?_)
    · skip
      refine lv_iconst (v := nI 0) hx hb d_M_goesOn_59 (by decide) ?_
      exact yr_i (ws := wMR G h dg mp ml th n t pl pn xy pt sz rs ou wr sl (rn blN t n p + 1) fk fp va oa oc ok xs ys) hx hb hrt hlocks (by first | exact Or.inl ⟨c10, rfl, rfl⟩ | exact Or.inr (Or.inl ⟨c19, rfl, rfl⟩) | exact absurd (by rw [← h10]; exact c10) c52 | exact absurd (h10.trans c52) c10) rfl hK hP hD hS d_M_goesOn_60
    · skip
      refine lv_iconst (v := nI 1) hx hb d_M_goesOn_55 (by decide) ?_
      refine lv_goto (tgt := 60) hx hb d_M_goesOn_56 (by decide) ?_
      exact yr_i (ws := wMR G h dg mp ml th n t pl pn xy pt sz rs ou wr sl (rn blN t n p + 1) fk fp va oa oc ok xs ys) hx hb hrt hlocks (by first | exact Or.inl ⟨c10, rfl, rfl⟩ | exact Or.inr (Or.inl ⟨c19, rfl, rfl⟩) | exact absurd (by rw [← h10]; exact c10) c52 | exact absurd (h10.trans c52) c10) rfl hK hP hD hS d_M_goesOn_60
  · skip
    refine lv_aload_n hx hb d_M_goesOn_13 rfl (lv_at hl 0 rfl) ?_
    refine y_callW (y_runV (As := []) (rest := []) hx hb hml hown (c_M_here l G h dg mp ml th n t pl pn xy pt sz rs ou wr sl (rn blN t n p) fk fp va oa oc ok xs ys  (by omega) (by omega) (ht)) (gV (n := 0) hg tk_797 tk_799 (gt_s 35 (by decide +kernel) (by decide +kernel)) tk_7 tk_800 (by decide +kernel) ⟨Nat.le_of_ble_eq_true rfl, Nat.le_of_ble_eq_true rfl⟩) (va_recv hK hP (ci := 5) (q0 := 0) rfl rfl) (y_preW hE hK hP hD hS hA) rfl rfl hl.1 rfl (lv_room (Nat.le_of_ble_eq_true rfl)) d_M_goesOn_14 ⟨Nat.le_of_ble_eq_true rfl, Nat.le_of_ble_eq_true rfl⟩) hD hS hA (fun _ _ _ _ _ _ hp => False.elim hp) (fun v9 w9 H locs hp hlw hP hD hS => ?_)
    obtain ⟨rfl, rfl⟩ := hp
    have hP : va_P (gD G) vwC (wMR G h dg mp ml th n t pl pn xy pt sz rs ou wr sl (rn blN t n p) fk fp va oa oc ok xs ys) H := hP
    have hD : va_D A (wMR G h dg mp ml th n t pl pn xy pt sz rs ou wr sl (rn blN t n p) fk fp va oa oc ok xs ys) := hD
    refine W.eq (g2 := F0 mm 17 ls [.int (toI (hr t n (rn blN t n p)))]) rfl ?_
    refine lv_bipush (v := nI 41) hx hb d_M_goesOn_17 (by decide) ?_
    refine yh_icmp_eq (a := hr t n (rn blN t n p)) (b := 41) (tgt := 29) hx hb d_M_goesOn_19 (by decide) (hr_le ht _ _) (by omega) (fun c19 => ?_) (fun c19 => ?_)
    · skip
      have h9 : rn blN t n p < n := by first | exact hr_lt c10 (by decide) | exact hr_lt c19 (by decide)
      have h10 : hr t n (rn blN t n p) = t (rn blN t n p) := if_pos h9
      refine lv_aload_n hx hb d_M_goesOn_29 rfl (lv_at hl 0 rfl) ?_
      refine lv_dup hx hb d_M_goesOn_30 rfl ?_
      refine va_get (D := gD G) (ci := 5) (v := .int (nI (rn blN t n p))) (C := "WordShapesModel") (T := TM) (N := 24) hx hb hg iw_M hown hK hP 0 rfl rfl 17 (by decide) (hg _ tk_700) (fun _ h9 => h9) rfl d_M_goesOn_31 ?_
      refine lv_iconst (v := nI 1) hx hb d_M_goesOn_34 (by decide) ?_
      refine lv_iadd hx hb d_M_goesOn_35 ?_
      refine y_eqi (nI_add _ _) ?_
      refine va_put (D := gD G) (ci := 5) (v := .int (nI (rn blN t n p + 1))) (ty := .int) (C := "WordShapesModel") (T := TM) (N := 24) hx hb hg iw_M ft_M fo_M nm_M hown hK hP hD hS 0 rfl rfl 17 (by decide) (hg _ tk_700) (fun _ h9 => h9) rfl (by decide +kernel) (rfl) (rfl) (Nat.le_of_ble_eq_true rfl) d_M_goesOn_36 (fun H locs hP hD hS => ?_)
      have hP : va_P (gD G) vwC (wMR G h dg mp ml th n t pl pn xy pt sz rs ou wr sl (rn blN t n p + 1) fk fp va oa oc ok xs ys) H := hP
      have hD : va_D A (wMR G h dg mp ml th n t pl pn xy pt sz rs ou wr sl (rn blN t n p + 1) fk fp va oa oc ok xs ys) := hD
      refine lv_aload_n hx hb d_M_goesOn_39 rfl (lv_at hl 0 rfl) ?_
      refine va_get (D := gD G) (ci := 5) (v := .ref (h 3)) (C := "WordShapesModel") (T := TM) (N := 24) hx hb hg iw_M hown hK hP 0 rfl rfl 7 (by decide) (hg _ tk_690) (fun _ h9 => h9) rfl d_M_goesOn_40 ?_
      refine lv_aload_n hx hb d_M_goesOn_43 rfl (lv_at hl 0 rfl) ?_
      refine va_get (D := gD G) (ci := 5) (v := .int (nI (rn blN t n p + 1))) (C := "WordShapesModel") (T := TM) (N := 24) hx hb hg iw_M hown hK hP 0 rfl rfl 17 (by decide) (hg _ tk_700) (fun _ h9 => h9) rfl d_M_goesOn_44 ?_
      refine lv_iconst (v := nI 1) hx hb d_M_goesOn_47 (by decide) ?_
      refine lv_isub hx hb d_M_goesOn_48 ?_
      refine y_eqi (y := nI (rn blN t n p)) (pk_sub (by omega)) ?_
      refine yn_iald hx hb hK hP 3 0 rfl rfl (j := rn blN t n p) (x := nI (t (rn blN t n p))) (rfl) (by omega) (by omega) d_M_goesOn_49 ?_
      refine lv_bipush (v := nI 44) hx hb d_M_goesOn_50 (by decide) ?_
      refine yn_icmp_ne (a := t (rn blN t n p)) (b := 44) (tgt := 59) hx hb d_M_goesOn_52 (by decide) (by omega) (by omega) (fun c52 => ?_) (fun c52 => ?_)
      · skip
        refine lv_iconst (v := nI 0) hx hb d_M_goesOn_59 (by decide) ?_
        exact yr_i (ws := wMR G h dg mp ml th n t pl pn xy pt sz rs ou wr sl (rn blN t n p + 1) fk fp va oa oc ok xs ys) hx hb hrt hlocks (by first | exact Or.inl ⟨c10, rfl, rfl⟩ | exact Or.inr (Or.inl ⟨c19, rfl, rfl⟩) | exact absurd (by rw [← h10]; exact c10) c52 | exact absurd (h10.trans c52) c10) rfl hK hP hD hS d_M_goesOn_60
      · skip
        refine lv_iconst (v := nI 1) hx hb d_M_goesOn_55 (by decide) ?_
        refine lv_goto (tgt := 60) hx hb d_M_goesOn_56 (by decide) ?_
        exact yr_i (ws := wMR G h dg mp ml th n t pl pn xy pt sz rs ou wr sl (rn blN t n p + 1) fk fp va oa oc ok xs ys) hx hb hrt hlocks (by first | exact Or.inl ⟨c10, rfl, rfl⟩ | exact Or.inr (Or.inl ⟨c19, rfl, rfl⟩) | exact absurd (by rw [← h10]; exact c10) c52 | exact absurd (h10.trans c52) c10) rfl hK hP hD hS d_M_goesOn_60
    · skip
      refine lv_aload_n hx hb d_M_goesOn_22 rfl (lv_at hl 0 rfl) ?_
      refine y_callW (y_runV (As := []) (rest := []) hx hb hml hown (c_M_unexpected l G h dg mp ml th n t pl pn xy pt sz rs ou wr sl (rn blN t n p) fk fp va oa oc ok xs ys  (by omega) (by omega) (ht)) (gV (n := 0) hg tk_804 tk_806 (gt_s 36 (by decide +kernel) (by decide +kernel)) tk_7 tk_807 (by decide +kernel) ⟨Nat.le_of_ble_eq_true rfl, Nat.le_of_ble_eq_true rfl⟩) (va_recv hK hP (ci := 5) (q0 := 0) rfl rfl) (y_preW hE hK hP hD hS hA) rfl rfl hl.1 rfl (lv_room (Nat.le_of_ble_eq_true rfl)) d_M_goesOn_23 ⟨Nat.le_of_ble_eq_true rfl, Nat.le_of_ble_eq_true rfl⟩) hD hS hA (fun _ _ _ _ _ _ hp => False.elim hp) (fun v9 w9 H locs hp hlw hP hD hS => ?_)
      obtain ⟨rfl, rfl⟩ := hp
      have hP : va_P (gD G) vwC (wMR G h dg mp ml th n t pl pn xy pt sz rs ou wr sl (rn blN t n p) (uxp (hr t n (rn blN t n p))) (rn blN t n p) va oa oc ok xs ys) H := hP
      have hD : va_D A (wMR G h dg mp ml th n t pl pn xy pt sz rs ou wr sl (rn blN t n p) (uxp (hr t n (rn blN t n p))) (rn blN t n p) va oa oc ok xs ys) := hD
      refine W.eq (g2 := F0 mm 26 ls [.int (nI 0)]) rfl ?_
      refine lv_pop hx hb d_M_goesOn_26 rfl ?_
      refine lv_iconst (v := (-1)) hx hb d_M_goesOn_27 (by decide) ?_
      exact yr_i (ws := wMR G h dg mp ml th n t pl pn xy pt sz rs ou wr sl (rn blN t n p) (uxp (hr t n (rn blN t n p))) (rn blN t n p) va oa oc ok xs ys) hx hb hrt hlocks (Or.inr (Or.inr ⟨⟨c10, c19⟩, rfl, rfl⟩)) rfl hK hP hD hS d_M_goesOn_28
set_option maxHeartbeats 4000000 in
set_option maxRecDepth 100000 in
theorem c_M_digitsFrom (l : Launch) (G : gl) (h : Nat → Nat) (dg : Nat) (mp : Nat) (ml : Nat) (th : Nat) (n : Nat) (t : Nat → Nat) (pl : Nat → Int32) (pn : Nat → Nat) (xy : Nat → Int32) (pt : Nat → Nat) (sz : Nat) (rs : Nat → Nat) (ou : Nat → Nat) (wr : Nat) (sl : Nat) (p : Nat) (fk : Nat) (fp : Nat) (va : Int32) (oa : Nat → Int32) (oc : Nat → Int32) (ok : Nat → Int32) (xs : List Int32) (ys : List (Int32 × Int32))  (hn : n ≤ 65536) (hp : p ≤ n) (ht : ∀ i, t i < 256) : YC l G y_M_digitsFrom k_M_digitsFrom 2 (Option.some FieldType.int) 2 42 [.ref (h 0)] (wMR G h dg mp ml th n t pl pn xy pt sz rs ou wr sl p fk fp va oa oc ok xs ys) (fun v w => v = some (.int (nI (rn diN t n p - p))) ∧ w = wMR G h dg mp ml th n t pl pn xy pt sz rs ou wr sl (rn diN t n p) fk fp va oa oc ok xs ys) (fun _ _ => False) := by
  refine yc_of (by decide) ?_
  intro pg ev sx mm bl mt cd A C0 hP hD
  obtain ⟨hx, hb, hrt, hml, hown, hg, hlocks, hxt, hE, hK, hA, hmn⟩ := C0
  have hS : va_S A sx.heap sx.heap [] := va_S.rf
  have hl := lv_entry ([.ref (h 0)]) (n := 2) (Nat.le_of_ble_eq_true rfl)
  rw [lg_entry_eq]
  generalize (lg_sl ([.ref (h 0)]) ++ List.replicate (2 - (lg_sl ([.ref (h 0)])).length) Slot.unset).toArray = ls at hl ⊢
  have hl : lv_has ls 2 [(0, .ref (h 0))] := hl
  obtain ⟨H, hH⟩ : ∃ H, H = sx.heap := ⟨_, rfl⟩
  rw [← hH] at hP
  have hS : va_S A sx.heap H [] := by rw [hH]; exact hS
  suffices h9 : W pg l ev (yR 2 42) sx mm _ bl mt cd H [] 0 0 (yMQ bl G A _ _ _ _ sx) (F0 mm 0 ls []) by rw [hH] at h9; exact h9
  obtain ⟨locs, hlo⟩ : ∃ locs : List Loc, locs = [] := ⟨_, rfl⟩
  rw [← hlo] at hS ⊢
  have J2 : ∀ (n9 : Nat) (q : Nat) (hm9 : n - q < n9) (hq1 : p ≤ q) (hq2 : q ≤ n) (hq3 : rn diN t n q = rn diN t n p) (H : Heap) (locs : List Loc) (ls : Array Slot), va_P (gD G) vwC (wMR G h dg mp ml th n t pl pn xy pt sz rs ou wr sl q fk fp va oa oc ok xs ys) H → va_D A (wMR G h dg mp ml th n t pl pn xy pt sz rs ou wr sl q fk fp va oa oc ok xs ys) → va_S A sx.heap H locs → lv_has ls 2 [(0, .ref (h 0)), (1, .int (nI (q - p)))] → W pg l ev (yR 2 42) sx mm ([.ref (h 0)] : List Value).toArray bl mt cd H locs 0 0 (yMQ bl G A (wMR G h dg mp ml th n t pl pn xy pt sz rs ou wr sl p fk fp va oa oc ok xs ys).length (fun v w => v = some (.int (nI (rn diN t n p - p))) ∧ w = wMR G h dg mp ml th n t pl pn xy pt sz rs ou wr sl (rn diN t n p) fk fp va oa oc ok xs ys) (fun _ _ => False) ([.ref (h 0)] : List Value).toArray sx) (F0 mm 2 ls []) := by
    intro n9
    induction n9 with
    | zero => intro q hm9; exact absurd hm9 (Nat.not_lt_zero _)
    | succ n9 ih9 =>
      intro q hm9 hq1 hq2 hq3 H locs ls hP hD hS hl
      refine lv_aload_n hx hb d_M_digitsFrom_2 rfl (lv_at hl 0 rfl) ?_
      refine y_callW (y_runV (As := []) (rest := []) hx hb hml hown (c_M_here l G h dg mp ml th n t pl pn xy pt sz rs ou wr sl q fk fp va oa oc ok xs ys  (by omega) (by omega) (ht)) (gV (n := 0) hg tk_797 tk_799 (gt_s 35 (by decide +kernel) (by decide +kernel)) tk_7 tk_800 (by decide +kernel) ⟨Nat.le_of_ble_eq_true rfl, Nat.le_of_ble_eq_true rfl⟩) (va_recv hK hP (ci := 5) (q0 := 0) rfl rfl) (y_preW hE hK hP hD hS hA) rfl rfl hl.1 rfl (lv_room (Nat.le_of_ble_eq_true rfl)) d_M_digitsFrom_3 ⟨Nat.le_of_ble_eq_true rfl, Nat.le_of_ble_eq_true rfl⟩) hD hS hA (fun _ _ _ _ _ _ hp => False.elim hp) (fun v9 w9 H locs hp hlw hP hD hS => ?_)
      obtain ⟨rfl, rfl⟩ := hp
      have hP : va_P (gD G) vwC (wMR G h dg mp ml th n t pl pn xy pt sz rs ou wr sl q fk fp va oa oc ok xs ys) H := hP
      have hD : va_D A (wMR G h dg mp ml th n t pl pn xy pt sz rs ou wr sl q fk fp va oa oc ok xs ys) := hD
      refine W.eq (g2 := F0 mm 6 ls [.int (toI (hr t n q))]) rfl ?_
      refine y_call (y_runS (As := [.int (toI (hr t n q))]) (rest := []) hx hb hml hown (c_M_isDigit l G  (toI (hr t n q)) ) (gS (n := 1) hg tk_811 tk_812 tk_7 tk_813 (by decide +kernel) ⟨Nat.le_of_ble_eq_true rfl, Nat.le_of_ble_eq_true rfl⟩) (y_pre hE hK hP hD hS hA [] rfl rfl) rfl rfl hl.1 rfl (lv_room (Nat.le_of_ble_eq_true rfl)) d_M_digitsFrom_6 ⟨Nat.le_of_ble_eq_true rfl, Nat.le_of_ble_eq_true rfl⟩) hP hD hS hA [] rfl (fun _ _ _ _ _ _ hp => False.elim hp) (fun v9 w9 H locs hp hlw hP hD hS => ?_)
      obtain ⟨rfl, rfl⟩ := hp
      have hP : va_P (gD G) vwC (wMR G h dg mp ml th n t pl pn xy pt sz rs ou wr sl q fk fp va oa oc ok xs ys) H := hP
      have hD : va_D A (wMR G h dg mp ml th n t pl pn xy pt sz rs ou wr sl q fk fp va oa oc ok xs ys) := hD
      refine W.eq (g2 := F0 mm 9 ls [.int (bz (isDi (toI (hr t n q))))]) rfl ?_
      refine yy_if_eq (P := isDi (toI (hr t n q))) (tgt := 28) hx hb d_M_digitsFrom_9 (by decide) (fun c9 => ?_) (fun c9 => ?_)
      · skip
        refine lv_iload_n hx hb d_M_digitsFrom_28 rfl (lv_at hl 1 rfl) ?_
        have e9 : q = rn diN t n p := by rw [← hq3]; exact (rn_stop (fun z => by rw [(ch_h _ (Nat.lt_succ_of_le (hr_le ht _ _))).2.2.1, show hr t n q = t q from if_pos z.1] at c9; rw [c9] at z; exact absurd z.2 (by decide))).symm
        rw [e9] at hP hD ⊢
        exact yr_i (ws := wMR G h dg mp ml th n t pl pn xy pt sz rs ou wr sl (rn diN t n p) fk fp va oa oc ok xs ys) hx hb hrt hlocks (⟨rfl, rfl⟩) rfl hK hP hD hS d_M_digitsFrom_29
      · skip
        have h9 := c9
        rw [(ch_h _ (Nat.lt_succ_of_le (hr_le ht _ _))).2.2.1] at h9
        have h7 : q < n := by rcases Nat.lt_or_ge q n with y | y; exact y; exact absurd h9 (by unfold hr; rw [if_neg (by omega)]; decide)
        have h8 : diN (t q) = true := by rwa [show hr t n q = t q from if_pos h7] at h9
        refine lv_aload_n hx hb d_M_digitsFrom_12 rfl (lv_at hl 0 rfl) ?_
        refine lv_dup hx hb d_M_digitsFrom_13 rfl ?_
        refine va_get (D := gD G) (ci := 5) (v := .int (nI q)) (C := "WordShapesModel") (T := TM) (N := 24) hx hb hg iw_M hown hK hP 0 rfl rfl 17 (by decide) (hg _ tk_700) (fun _ h9 => h9) rfl d_M_digitsFrom_14 ?_
        refine lv_iconst (v := nI 1) hx hb d_M_digitsFrom_17 (by decide) ?_
        refine lv_iadd hx hb d_M_digitsFrom_18 ?_
        refine y_eqi (nI_add _ _) ?_
        refine va_put (D := gD G) (ci := 5) (v := .int (nI (q + 1))) (ty := .int) (C := "WordShapesModel") (T := TM) (N := 24) hx hb hg iw_M ft_M fo_M nm_M hown hK hP hD hS 0 rfl rfl 17 (by decide) (hg _ tk_700) (fun _ h9 => h9) rfl (by decide +kernel) (rfl) (rfl) (Nat.le_of_ble_eq_true rfl) d_M_digitsFrom_19 (fun H locs hP hD hS => ?_)
        have hP : va_P (gD G) vwC (wMR G h dg mp ml th n t pl pn xy pt sz rs ou wr sl (q + 1) fk fp va oa oc ok xs ys) H := hP
        have hD : va_D A (wMR G h dg mp ml th n t pl pn xy pt sz rs ou wr sl (q + 1) fk fp va oa oc ok xs ys) := hD
        refine lv_iinc (v := nI (q - p + 1)) (lv' := [(1, .int (nI (q - p + 1))), (0, .ref (h 0))]) hx hb d_M_digitsFrom_22 hl (k := 1) rfl (y_inc _) (by decide) rfl (fun ls hl => ?_)
        refine lv_goto (tgt := 2) hx hb d_M_digitsFrom_25 (by decide) ?_
        exact ih9 (q + 1) (by omega) (by omega) (by omega) ((rn_step h7 h8).symm.trans hq3) _ _ _ hP hD hS (lv_sub hl [1, 0] (by rw [show q + 1 - p = q - p + 1 by omega]; rfl))
  refine lv_iconst (v := nI 0) hx hb d_M_digitsFrom_0 (by decide) ?_
  refine lv_istore_n (lv' := [(1, .int (nI 0)), (0, .ref (h 0))]) hx hb d_M_digitsFrom_1 rfl hl (by decide) rfl (fun ls hl => ?_)
  exact J2 _ p (Nat.lt_succ_self _) (by omega) (by omega) (rfl) _ _ _ hP hD hS (lv_sub hl [1, 0] (by rw [Nat.sub_self]; rfl))
set_option maxHeartbeats 4000000 in
set_option maxRecDepth 100000 in
theorem c_M_room (l : Launch) (G : gl) (h : Nat → Nat) (dg : Nat) (mp : Nat) (ml : Nat) (th : Nat) (n : Nat) (t : Nat → Nat) (pl : Nat → Int32) (pn : Nat → Nat) (xy : Nat → Int32) (pt : Nat → Nat) (sz : Nat) (rs : Nat → Nat) (ou : Nat → Nat) (wr : Nat) (sl : Nat) (p : Nat) (fk : Nat) (fp : Nat) (va : Int32) (oa : Nat → Int32) (oc : Nat → Int32) (ok : Nat → Int32) (xs : List Int32) (ys : List (Int32 × Int32)) (a : Nat) (b : Nat) (hml : ml ≤ 4096) (hmp : mp ≤ 4096) (hsl : sl < 4) (hxs : xs.length ≤ ml) (hys : ys.length ≤ mp) (ha : a ≤ 2) (hb9 : b ≤ 2) : YC l G y_M_room k_M_room 3 (Option.some FieldType.boolean) 0 0 [.ref (h 0), .int (nI a), .int (nI b)] (wMR G h dg mp ml th n t pl pn xy pt sz rs ou wr sl p fk fp va oa oc ok xs ys) (fun v w => v = some (.int (bz (decide (xs.length + a ≤ ml ∧ ys.length + b ≤ mp)))) ∧ w = wMR G h dg mp ml th n t pl pn xy pt sz rs ou wr sl p fk fp va oa oc ok xs ys) (fun _ _ => False) := by
  refine yc_of (by decide) ?_
  intro pg ev sx mm bl mt cd A C0 hP hD
  obtain ⟨hx, hb, hrt, hml, hown, hg, hlocks, hxt, hE, hK, hA, hmn⟩ := C0
  have hS : va_S A sx.heap sx.heap [] := va_S.rf
  have hl := lv_entry ([.ref (h 0), .int (nI a), .int (nI b)]) (n := 3) (Nat.le_of_ble_eq_true rfl)
  rw [lg_entry_eq]
  generalize (lg_sl ([.ref (h 0), .int (nI a), .int (nI b)]) ++ List.replicate (3 - (lg_sl ([.ref (h 0), .int (nI a), .int (nI b)])).length) Slot.unset).toArray = ls at hl ⊢
  have hl : lv_has ls 3 [(0, .ref (h 0)), (1, .int (nI a)), (2, .int (nI b))] := hl
  obtain ⟨H, hH⟩ : ∃ H, H = sx.heap := ⟨_, rfl⟩
  rw [← hH] at hP
  have hS : va_S A sx.heap H [] := by rw [hH]; exact hS
  suffices h9 : W pg l ev (yR 0 0) sx mm _ bl mt cd H [] 0 0 (yMQ bl G A _ _ _ _ sx) (F0 mm 0 ls []) by rw [hH] at h9; exact h9
  obtain ⟨locs, hlo⟩ : ∃ locs : List Loc, locs = [] := ⟨_, rfl⟩
  rw [← hlo] at hS ⊢
  refine lv_aload_n hx hb d_M_room_0 rfl (lv_at hl 0 rfl) ?_
  refine va_get (D := gD G) (ci := 5) (v := .ref (h 5)) (C := "WordShapesModel") (T := TM) (N := 24) hx hb hg iw_M hown hK hP 0 rfl rfl 9 (by decide) (hg _ tk_692) (fun _ h9 => h9) rfl d_M_room_1 ?_
  refine lv_aload_n hx hb d_M_room_4 rfl (lv_at hl 0 rfl) ?_
  refine va_get (D := gD G) (ci := 5) (v := .int (nI sl)) (C := "WordShapesModel") (T := TM) (N := 24) hx hb hg iw_M hown hK hP 0 rfl rfl 16 (by decide) (hg _ tk_699) (fun _ h9 => h9) rfl d_M_room_5 ?_
  refine yn_iald hx hb hK hP 5 0 rfl rfl (j := sl) (x := nI xs.length) (vu_n _ _ _) (by omega) (by omega) d_M_room_8 ?_
  refine lv_iload_n hx hb d_M_room_9 rfl (lv_at hl 1 rfl) ?_
  refine lv_iadd hx hb d_M_room_10 ?_
  refine y_eqi (nI_add _ _) ?_
  refine lv_aload_n hx hb d_M_room_11 rfl (lv_at hl 0 rfl) ?_
  refine va_get (D := gD G) (ci := 5) (v := .int (nI ml)) (C := "WordShapesModel") (T := TM) (N := 24) hx hb hg iw_M hown hK hP 0 rfl rfl 5 (by decide) (hg _ tk_688) (fun _ h9 => h9) rfl d_M_room_12 ?_
  refine yn_icmp_gt (a := xs.length + a) (b := ml) (tgt := 40) hx hb d_M_room_15 (by decide) (by omega) (by omega) (fun c15 => ?_) (fun c15 => ?_)
  · skip
    refine lv_iconst (v := nI 0) hx hb d_M_room_40 (by decide) ?_
    exact yr_z (ws := wMR G h dg mp ml th n t pl pn xy pt sz rs ou wr sl p fk fp va oa oc ok xs ys) hx hb hrt (rfl) hlocks (⟨congrArg (fun z => some (Value.int z)) (bz_f (by omega)), rfl⟩) rfl hK hP hD hS d_M_room_41
  · skip
    refine lv_aload_n hx hb d_M_room_18 rfl (lv_at hl 0 rfl) ?_
    refine va_get (D := gD G) (ci := 5) (v := .ref (h 7)) (C := "WordShapesModel") (T := TM) (N := 24) hx hb hg iw_M hown hK hP 0 rfl rfl 11 (by decide) (hg _ tk_694) (fun _ h9 => h9) rfl d_M_room_19 ?_
    refine lv_aload_n hx hb d_M_room_22 rfl (lv_at hl 0 rfl) ?_
    refine va_get (D := gD G) (ci := 5) (v := .int (nI sl)) (C := "WordShapesModel") (T := TM) (N := 24) hx hb hg iw_M hown hK hP 0 rfl rfl 16 (by decide) (hg _ tk_699) (fun _ h9 => h9) rfl d_M_room_23 ?_
    refine yn_iald hx hb hK hP 7 0 rfl rfl (j := sl) (x := nI ys.length) (vu_n _ _ _) (by omega) (by omega) d_M_room_26 ?_
    refine lv_iload_n hx hb d_M_room_27 rfl (lv_at hl 2 rfl) ?_
    refine lv_iadd hx hb d_M_room_28 ?_
    refine y_eqi (nI_add _ _) ?_
    refine lv_aload_n hx hb d_M_room_29 rfl (lv_at hl 0 rfl) ?_
    refine va_get (D := gD G) (ci := 5) (v := .int (nI mp)) (C := "WordShapesModel") (T := TM) (N := 24) hx hb hg iw_M hown hK hP 0 rfl rfl 4 (by decide) (hg _ tk_687) (fun _ h9 => h9) rfl d_M_room_30 ?_
    refine yn_icmp_gt (a := ys.length + b) (b := mp) (tgt := 40) hx hb d_M_room_33 (by decide) (by omega) (by omega) (fun c33 => ?_) (fun c33 => ?_)
    · skip
      refine lv_iconst (v := nI 0) hx hb d_M_room_40 (by decide) ?_
      exact yr_z (ws := wMR G h dg mp ml th n t pl pn xy pt sz rs ou wr sl p fk fp va oa oc ok xs ys) hx hb hrt (rfl) hlocks (⟨congrArg (fun z => some (Value.int z)) (bz_f (by omega)), rfl⟩) rfl hK hP hD hS d_M_room_41
    · skip
      refine lv_iconst (v := nI 1) hx hb d_M_room_36 (by decide) ?_
      refine lv_goto (tgt := 41) hx hb d_M_room_37 (by decide) ?_
      exact yr_z (ws := wMR G h dg mp ml th n t pl pn xy pt sz rs ou wr sl p fk fp va oa oc ok xs ys) hx hb hrt (rfl) hlocks (⟨congrArg (fun z => some (Value.int z)) (bz_t (by omega)), rfl⟩) rfl hK hP hD hS d_M_room_41
set_option maxHeartbeats 4000000 in
set_option maxRecDepth 100000 in
theorem c_M_say (l : Launch) (G : gl) (h : Nat → Nat) (dg : Nat) (mp : Nat) (ml : Nat) (th : Nat) (n : Nat) (t : Nat → Nat) (pl : Nat → Int32) (pn : Nat → Nat) (xy : Nat → Int32) (pt : Nat → Nat) (sz : Nat) (rs : Nat → Nat) (ou : Nat → Nat) (wr : Nat) (sl : Nat) (p : Nat) (fk : Nat) (fp : Nat) (va : Int32) (oa : Nat → Int32) (oc : Nat → Int32) (ok : Nat → Int32) (xs : List Int32) (ys : List (Int32 × Int32)) (x : Int32) (hml : ml ≤ 4096) (hmp : mp ≤ 4096) (hsl : sl < 4) (hxs : xs.length ≤ ml) (hys : ys.length ≤ mp) (hr9 : xs.length + 1 ≤ ml) : YC l G y_M_say k_M_say 2 (Option.none : Option FieldType) 0 0 [.ref (h 0), .int x] (wMR G h dg mp ml th n t pl pn xy pt sz rs ou wr sl p fk fp va oa oc ok xs ys) (fun v w => v = none ∧ w = wMR G h dg mp ml th n t pl pn xy pt sz rs ou wr sl p fk fp va oa oc ok (xs ++ [x]) ys) (fun _ _ => False) := by
  refine yc_of (by decide) ?_
  intro pg ev sx mm bl mt cd A C0 hP hD
  obtain ⟨hx, hb, hrt, hml, hown, hg, hlocks, hxt, hE, hK, hA, hmn⟩ := C0
  have hS : va_S A sx.heap sx.heap [] := va_S.rf
  have hl := lv_entry ([.ref (h 0), .int x]) (n := 2) (Nat.le_of_ble_eq_true rfl)
  rw [lg_entry_eq]
  generalize (lg_sl ([.ref (h 0), .int x]) ++ List.replicate (2 - (lg_sl ([.ref (h 0), .int x])).length) Slot.unset).toArray = ls at hl ⊢
  have hl : lv_has ls 2 [(0, .ref (h 0)), (1, .int x)] := hl
  obtain ⟨H, hH⟩ : ∃ H, H = sx.heap := ⟨_, rfl⟩
  rw [← hH] at hP
  have hS : va_S A sx.heap H [] := by rw [hH]; exact hS
  suffices h9 : W pg l ev (yR 0 0) sx mm _ bl mt cd H [] 0 0 (yMQ bl G A _ _ _ _ sx) (F0 mm 0 ls []) by rw [hH] at h9; exact h9
  obtain ⟨locs, hlo⟩ : ∃ locs : List Loc, locs = [] := ⟨_, rfl⟩
  rw [← hlo] at hS ⊢
  have hP : va_P (gD G) vwC (wM G h dg mp ml th n t (plR pl sl xs) (va_up pn sl xs.length) (xyR xy sl ys) (va_up pt sl ys.length) sz rs ou wr sl p fk fp va oa oc ok) H := hP
  have hD : va_D A (wM G h dg mp ml th n t (plR pl sl xs) (va_up pn sl xs.length) (xyR xy sl ys) (va_up pt sl ys.length) sz rs ou wr sl p fk fp va oa oc ok) := hD
  refine lv_aload_n hx hb d_M_say_0 rfl (lv_at hl 0 rfl) ?_
  refine va_get (D := gD G) (ci := 5) (v := .ref (h 4)) (C := "WordShapesModel") (T := TM) (N := 24) hx hb hg iw_M hown hK hP 0 rfl rfl 8 (by decide) (hg _ tk_691) (fun _ h9 => h9) rfl d_M_say_1 ?_
  refine lv_sipush (v := nI 4096) hx hb d_M_say_4 (by decide) ?_
  refine lv_aload_n hx hb d_M_say_7 rfl (lv_at hl 0 rfl) ?_
  refine va_get (D := gD G) (ci := 5) (v := .int (nI sl)) (C := "WordShapesModel") (T := TM) (N := 24) hx hb hg iw_M hown hK hP 0 rfl rfl 16 (by decide) (hg _ tk_699) (fun _ h9 => h9) rfl d_M_say_8 ?_
  refine lv_imul hx hb d_M_say_11 ?_
  refine y_eqi (pk_mul _ _) ?_
  refine lv_aload_n hx hb d_M_say_12 rfl (lv_at hl 0 rfl) ?_
  refine va_get (D := gD G) (ci := 5) (v := .ref (h 5)) (C := "WordShapesModel") (T := TM) (N := 24) hx hb hg iw_M hown hK hP 0 rfl rfl 9 (by decide) (hg _ tk_692) (fun _ h9 => h9) rfl d_M_say_13 ?_
  refine lv_aload_n hx hb d_M_say_16 rfl (lv_at hl 0 rfl) ?_
  refine va_get (D := gD G) (ci := 5) (v := .int (nI sl)) (C := "WordShapesModel") (T := TM) (N := 24) hx hb hg iw_M hown hK hP 0 rfl rfl 16 (by decide) (hg _ tk_699) (fun _ h9 => h9) rfl d_M_say_17 ?_
  refine yn_iald hx hb hK hP 5 0 rfl rfl (j := sl) (x := nI xs.length) (vu_n _ _ _) (by omega) (by omega) d_M_say_20 ?_
  refine lv_iadd hx hb d_M_say_21 ?_
  refine y_eqi (nI_add _ _) ?_
  refine lv_iload_n hx hb d_M_say_22 rfl (lv_at hl 1 rfl) ?_
  refine yn_iast hx hb hK hP hD hS 4 0 rfl rfl (j := 4096 * sl + xs.length) (x := x) (f1 := upd (plR pl sl xs) (4096 * sl + xs.length) x) (rfl) (by omega) (by omega) d_M_say_23 (fun H locs hP hD hS => ?_)
  have hP : va_P (gD G) vwC (wM G h dg mp ml th n t (upd (plR pl sl xs) (4096 * sl + xs.length) x) (va_up pn sl xs.length) (xyR xy sl ys) (va_up pt sl ys.length) sz rs ou wr sl p fk fp va oa oc ok) H := hP
  have hD : va_D A (wM G h dg mp ml th n t (upd (plR pl sl xs) (4096 * sl + xs.length) x) (va_up pn sl xs.length) (xyR xy sl ys) (va_up pt sl ys.length) sz rs ou wr sl p fk fp va oa oc ok) := hD
  refine lv_aload_n hx hb d_M_say_24 rfl (lv_at hl 0 rfl) ?_
  refine va_get (D := gD G) (ci := 5) (v := .ref (h 5)) (C := "WordShapesModel") (T := TM) (N := 24) hx hb hg iw_M hown hK hP 0 rfl rfl 9 (by decide) (hg _ tk_692) (fun _ h9 => h9) rfl d_M_say_25 ?_
  refine lv_aload_n hx hb d_M_say_28 rfl (lv_at hl 0 rfl) ?_
  refine va_get (D := gD G) (ci := 5) (v := .int (nI sl)) (C := "WordShapesModel") (T := TM) (N := 24) hx hb hg iw_M hown hK hP 0 rfl rfl 16 (by decide) (hg _ tk_699) (fun _ h9 => h9) rfl d_M_say_29 ?_
  refine lv_dup2_11 hx hb d_M_say_32 rfl rfl ?_
  refine yn_iald hx hb hK hP 5 0 rfl rfl (j := sl) (x := nI xs.length) (vu_n _ _ _) (by omega) (by omega) d_M_say_33 ?_
  refine lv_iconst (v := nI 1) hx hb d_M_say_34 (by decide) ?_
  refine lv_iadd hx hb d_M_say_35 ?_
  refine y_eqi (nI_add _ _) ?_
  refine yn_iast hx hb hK hP hD hS 5 0 rfl rfl (j := sl) (x := nI (xs.length + 1)) (f1 := fun i => nI ((va_up (va_up pn sl xs.length) sl (xs.length + 1)) i)) (vu_st _ _ _) (by omega) (by omega) d_M_say_36 (fun H locs hP hD hS => ?_)
  have hP : va_P (gD G) vwC (wM G h dg mp ml th n t (upd (plR pl sl xs) (4096 * sl + xs.length) x) (va_up (va_up pn sl xs.length) sl (xs.length + 1)) (xyR xy sl ys) (va_up pt sl ys.length) sz rs ou wr sl p fk fp va oa oc ok) H := hP
  have hD : va_D A (wM G h dg mp ml th n t (upd (plR pl sl xs) (4096 * sl + xs.length) x) (va_up (va_up pn sl xs.length) sl (xs.length + 1)) (xyR xy sl ys) (va_up pt sl ys.length) sz rs ou wr sl p fk fp va oa oc ok) := hD
  rw [plR_say _ _ _ _ (by omega), show va_up (va_up pn sl xs.length) sl (xs.length + 1) = va_up pn sl (xs ++ [x]).length by rw [vu_u, List.length_append, List.length_singleton]] at hP hD
  have hP : va_P (gD G) vwC (wMR G h dg mp ml th n t pl pn xy pt sz rs ou wr sl p fk fp va oa oc ok (xs ++ [x]) ys) H := hP
  have hD : va_D A (wMR G h dg mp ml th n t pl pn xy pt sz rs ou wr sl p fk fp va oa oc ok (xs ++ [x]) ys) := hD
  exact yr_v (ws := wMR G h dg mp ml th n t pl pn xy pt sz rs ou wr sl p fk fp va oa oc ok (xs ++ [x]) ys) hx hb hrt hlocks (⟨rfl, rfl⟩) rfl hK hP hD hS d_M_say_37
set_option maxHeartbeats 4000000 in
set_option maxRecDepth 100000 in
theorem c_M_open (l : Launch) (G : gl) (h : Nat → Nat) (dg : Nat) (mp : Nat) (ml : Nat) (th : Nat) (n : Nat) (t : Nat → Nat) (pl : Nat → Int32) (pn : Nat → Nat) (xy : Nat → Int32) (pt : Nat → Nat) (sz : Nat) (rs : Nat → Nat) (ou : Nat → Nat) (wr : Nat) (sl : Nat) (p : Nat) (fk : Nat) (fp : Nat) (va : Int32) (oa : Nat → Int32) (oc : Nat → Int32) (ok : Nat → Int32) (xs : List Int32) (ys : List (Int32 × Int32)) (x : Int32) (hml : ml ≤ 4096) (hmp : mp ≤ 4096) (hsl : sl < 4) (hxs : xs.length ≤ ml) (hys : ys.length ≤ mp) (hr9 : xs.length + 2 ≤ ml) : YC l G y_M_open k_M_open 2 (Option.some FieldType.int) 1 21 [.ref (h 0), .int x] (wMR G h dg mp ml th n t pl pn xy pt sz rs ou wr sl p fk fp va oa oc ok xs ys) (fun v w => v = some (.int (nI (xs.length + 1))) ∧ w = wMR G h dg mp ml th n t pl pn xy pt sz rs ou wr sl p fk fp va oa oc ok (xs ++ [x] ++ [nI 0]) ys) (fun _ _ => False) := by
  refine yc_of (by decide) ?_
  intro pg ev sx mm bl mt cd A C0 hP hD
  obtain ⟨hx, hb, hrt, hml, hown, hg, hlocks, hxt, hE, hK, hA, hmn⟩ := C0
  have hS : va_S A sx.heap sx.heap [] := va_S.rf
  have hl := lv_entry ([.ref (h 0), .int x]) (n := 2) (Nat.le_of_ble_eq_true rfl)
  rw [lg_entry_eq]
  generalize (lg_sl ([.ref (h 0), .int x]) ++ List.replicate (2 - (lg_sl ([.ref (h 0), .int x])).length) Slot.unset).toArray = ls at hl ⊢
  have hl : lv_has ls 2 [(0, .ref (h 0)), (1, .int x)] := hl
  obtain ⟨H, hH⟩ : ∃ H, H = sx.heap := ⟨_, rfl⟩
  rw [← hH] at hP
  have hS : va_S A sx.heap H [] := by rw [hH]; exact hS
  suffices h9 : W pg l ev (yR 1 21) sx mm _ bl mt cd H [] 0 0 (yMQ bl G A _ _ _ _ sx) (F0 mm 0 ls []) by rw [hH] at h9; exact h9
  obtain ⟨locs, hlo⟩ : ∃ locs : List Loc, locs = [] := ⟨_, rfl⟩
  rw [← hlo] at hS ⊢
  refine lv_aload_n hx hb d_M_open_0 rfl (lv_at hl 0 rfl) ?_
  refine lv_iload_n hx hb d_M_open_1 rfl (lv_at hl 1 rfl) ?_
  refine y_callW (y_runV (As := [.int x]) (rest := []) hx hb hml hown (c_M_say l G h dg mp ml th n t pl pn xy pt sz rs ou wr sl p fk fp va oa oc ok xs ys x (by omega) (by omega) (by omega) (by omega) (by omega) (by omega)) (gV (n := 1) hg tk_833 tk_835 (gt_s 41 (by decide +kernel) (by decide +kernel)) tk_7 tk_836 (by decide +kernel) ⟨Nat.le_of_ble_eq_true rfl, Nat.le_of_ble_eq_true rfl⟩) (va_recv hK hP (ci := 5) (q0 := 0) rfl rfl) (y_preW hE hK hP hD hS hA) rfl rfl hl.1 rfl (lv_room (Nat.le_of_ble_eq_true rfl)) d_M_open_2 ⟨Nat.le_of_ble_eq_true rfl, Nat.le_of_ble_eq_true rfl⟩) hD hS hA (fun _ _ _ _ _ _ hp => False.elim hp) (fun v9 w9 H locs hp hlw hP hD hS => ?_)
  obtain ⟨rfl, rfl⟩ := hp
  have hP : va_P (gD G) vwC (wMR G h dg mp ml th n t pl pn xy pt sz rs ou wr sl p fk fp va oa oc ok (xs ++ [x]) ys) H := hP
  have hD : va_D A (wMR G h dg mp ml th n t pl pn xy pt sz rs ou wr sl p fk fp va oa oc ok (xs ++ [x]) ys) := hD
  refine W.eq (g2 := F0 mm 5 ls []) rfl ?_
  refine lv_aload_n hx hb d_M_open_5 rfl (lv_at hl 0 rfl) ?_
  refine lv_iconst (v := nI 0) hx hb d_M_open_6 (by decide) ?_
  refine y_callW (y_runV (As := [.int (nI 0)]) (rest := []) hx hb hml hown (c_M_say l G h dg mp ml th n t pl pn xy pt sz rs ou wr sl p fk fp va oa oc ok (xs ++ [x]) ys (nI 0) (by omega) (by omega) (by omega) (by simp only [List.length_append, List.length_singleton]; omega) (by omega) (by simp only [List.length_append, List.length_singleton]; omega)) (gV (n := 1) hg tk_833 tk_835 (gt_s 41 (by decide +kernel) (by decide +kernel)) tk_7 tk_836 (by decide +kernel) ⟨Nat.le_of_ble_eq_true rfl, Nat.le_of_ble_eq_true rfl⟩) (va_recv hK hP (ci := 5) (q0 := 0) rfl rfl) (y_preW hE hK hP hD hS hA) rfl rfl hl.1 rfl (lv_room (Nat.le_of_ble_eq_true rfl)) d_M_open_7 ⟨Nat.le_of_ble_eq_true rfl, Nat.le_of_ble_eq_true rfl⟩) hD hS hA (fun _ _ _ _ _ _ hp => False.elim hp) (fun v9 w9 H locs hp hlw hP hD hS => ?_)
  obtain ⟨rfl, rfl⟩ := hp
  have hP : va_P (gD G) vwC (wMR G h dg mp ml th n t pl pn xy pt sz rs ou wr sl p fk fp va oa oc ok ((xs ++ [x]) ++ [(nI 0)]) ys) H := hP
  have hD : va_D A (wMR G h dg mp ml th n t pl pn xy pt sz rs ou wr sl p fk fp va oa oc ok ((xs ++ [x]) ++ [(nI 0)]) ys) := hD
  refine W.eq (g2 := F0 mm 10 ls []) rfl ?_
  refine lv_aload_n hx hb d_M_open_10 rfl (lv_at hl 0 rfl) ?_
  refine va_get (D := gD G) (ci := 5) (v := .ref (h 5)) (C := "WordShapesModel") (T := TM) (N := 24) hx hb hg iw_M hown hK hP 0 rfl rfl 9 (by decide) (hg _ tk_692) (fun _ h9 => h9) rfl d_M_open_11 ?_
  refine lv_aload_n hx hb d_M_open_14 rfl (lv_at hl 0 rfl) ?_
  refine va_get (D := gD G) (ci := 5) (v := .int (nI sl)) (C := "WordShapesModel") (T := TM) (N := 24) hx hb hg iw_M hown hK hP 0 rfl rfl 16 (by decide) (hg _ tk_699) (fun _ h9 => h9) rfl d_M_open_15 ?_
  refine yn_iald hx hb hK hP 5 0 rfl rfl (j := sl) (x := nI (((xs ++ [x]) ++ [(nI 0)]).length)) (vu_n _ _ _) (by omega) (by omega) d_M_open_18 ?_
  refine lv_iconst (v := nI 1) hx hb d_M_open_19 (by decide) ?_
  refine lv_isub hx hb d_M_open_20 ?_
  refine y_eqi (y := nI (xs.length + 1)) ((pk_sub (by simp only [List.length_append, List.length_singleton]; omega)).trans (congrArg nI (by simp only [List.length_append, List.length_singleton]; omega))) ?_
  exact yr_i (ws := wMR G h dg mp ml th n t pl pn xy pt sz rs ou wr sl p fk fp va oa oc ok ((xs ++ [x]) ++ [(nI 0)]) ys) hx hb hrt hlocks (⟨rfl, rfl⟩) rfl hK hP hD hS d_M_open_21
set_option maxHeartbeats 4000000 in
set_option maxRecDepth 100000 in
theorem c_M_close (l : Launch) (G : gl) (h : Nat → Nat) (dg : Nat) (mp : Nat) (ml : Nat) (th : Nat) (n : Nat) (t : Nat → Nat) (pl : Nat → Int32) (pn : Nat → Nat) (xy : Nat → Int32) (pt : Nat → Nat) (sz : Nat) (rs : Nat → Nat) (ou : Nat → Nat) (wr : Nat) (sl : Nat) (p : Nat) (fk : Nat) (fp : Nat) (va : Int32) (oa : Nat → Int32) (oc : Nat → Int32) (ok : Nat → Int32) (xs : List Int32) (ys : List (Int32 × Int32)) (wh : Nat) (x : Int32) (hml : ml ≤ 4096) (hmp : mp ≤ 4096) (hsl : sl < 4) (hxs : xs.length ≤ ml) (hys : ys.length ≤ mp) (hw : wh < xs.length) : YC l G y_M_close k_M_close 3 (Option.none : Option FieldType) 0 0 [.ref (h 0), .int (nI wh), .int x] (wMR G h dg mp ml th n t pl pn xy pt sz rs ou wr sl p fk fp va oa oc ok xs ys) (fun v w => v = none ∧ w = wMR G h dg mp ml th n t pl pn xy pt sz rs ou wr sl p fk fp va oa oc ok (xs.set wh x) ys) (fun _ _ => False) := by
  refine yc_of (by decide) ?_
  intro pg ev sx mm bl mt cd A C0 hP hD
  obtain ⟨hx, hb, hrt, hml, hown, hg, hlocks, hxt, hE, hK, hA, hmn⟩ := C0
  have hS : va_S A sx.heap sx.heap [] := va_S.rf
  have hl := lv_entry ([.ref (h 0), .int (nI wh), .int x]) (n := 3) (Nat.le_of_ble_eq_true rfl)
  rw [lg_entry_eq]
  generalize (lg_sl ([.ref (h 0), .int (nI wh), .int x]) ++ List.replicate (3 - (lg_sl ([.ref (h 0), .int (nI wh), .int x])).length) Slot.unset).toArray = ls at hl ⊢
  have hl : lv_has ls 3 [(0, .ref (h 0)), (1, .int (nI wh)), (2, .int x)] := hl
  obtain ⟨H, hH⟩ : ∃ H, H = sx.heap := ⟨_, rfl⟩
  rw [← hH] at hP
  have hS : va_S A sx.heap H [] := by rw [hH]; exact hS
  suffices h9 : W pg l ev (yR 0 0) sx mm _ bl mt cd H [] 0 0 (yMQ bl G A _ _ _ _ sx) (F0 mm 0 ls []) by rw [hH] at h9; exact h9
  obtain ⟨locs, hlo⟩ : ∃ locs : List Loc, locs = [] := ⟨_, rfl⟩
  rw [← hlo] at hS ⊢
  have hP : va_P (gD G) vwC (wM G h dg mp ml th n t (plR pl sl xs) (va_up pn sl xs.length) (xyR xy sl ys) (va_up pt sl ys.length) sz rs ou wr sl p fk fp va oa oc ok) H := hP
  have hD : va_D A (wM G h dg mp ml th n t (plR pl sl xs) (va_up pn sl xs.length) (xyR xy sl ys) (va_up pt sl ys.length) sz rs ou wr sl p fk fp va oa oc ok) := hD
  refine lv_aload_n hx hb d_M_close_0 rfl (lv_at hl 0 rfl) ?_
  refine va_get (D := gD G) (ci := 5) (v := .ref (h 4)) (C := "WordShapesModel") (T := TM) (N := 24) hx hb hg iw_M hown hK hP 0 rfl rfl 8 (by decide) (hg _ tk_691) (fun _ h9 => h9) rfl d_M_close_1 ?_
  refine lv_sipush (v := nI 4096) hx hb d_M_close_4 (by decide) ?_
  refine lv_aload_n hx hb d_M_close_7 rfl (lv_at hl 0 rfl) ?_
  refine va_get (D := gD G) (ci := 5) (v := .int (nI sl)) (C := "WordShapesModel") (T := TM) (N := 24) hx hb hg iw_M hown hK hP 0 rfl rfl 16 (by decide) (hg _ tk_699) (fun _ h9 => h9) rfl d_M_close_8 ?_
  refine lv_imul hx hb d_M_close_11 ?_
  refine y_eqi (pk_mul _ _) ?_
  refine lv_iload_n hx hb d_M_close_12 rfl (lv_at hl 1 rfl) ?_
  refine lv_iadd hx hb d_M_close_13 ?_
  refine y_eqi (nI_add _ _) ?_
  refine lv_iload_n hx hb d_M_close_14 rfl (lv_at hl 2 rfl) ?_
  refine yn_iast hx hb hK hP hD hS 4 0 rfl rfl (j := 4096 * sl + wh) (x := x) (f1 := upd (plR pl sl xs) (4096 * sl + wh) x) (rfl) (by omega) (by omega) d_M_close_15 (fun H locs hP hD hS => ?_)
  have hP : va_P (gD G) vwC (wM G h dg mp ml th n t (upd (plR pl sl xs) (4096 * sl + wh) x) (va_up pn sl xs.length) (xyR xy sl ys) (va_up pt sl ys.length) sz rs ou wr sl p fk fp va oa oc ok) H := hP
  have hD : va_D A (wM G h dg mp ml th n t (upd (plR pl sl xs) (4096 * sl + wh) x) (va_up pn sl xs.length) (xyR xy sl ys) (va_up pt sl ys.length) sz rs ou wr sl p fk fp va oa oc ok) := hD
  rw [plR_set _ hw (by omega), show va_up pn sl xs.length = va_up pn sl (xs.set wh x).length by rw [List.length_set]] at hP hD
  have hP : va_P (gD G) vwC (wMR G h dg mp ml th n t pl pn xy pt sz rs ou wr sl p fk fp va oa oc ok (xs.set wh x) ys) H := hP
  have hD : va_D A (wMR G h dg mp ml th n t pl pn xy pt sz rs ou wr sl p fk fp va oa oc ok (xs.set wh x) ys) := hD
  exact yr_v (ws := wMR G h dg mp ml th n t pl pn xy pt sz rs ou wr sl p fk fp va oa oc ok (xs.set wh x) ys) hx hb hrt hlocks (⟨rfl, rfl⟩) rfl hK hP hD hS d_M_close_16
