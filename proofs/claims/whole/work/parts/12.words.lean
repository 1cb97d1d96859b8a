/-! the words: their letters as the strings have them -/
def wdC (k j : Nat) : Nat := (wdL k).getD j 0
theorem wdC_lt (k j : Nat) : wdC k j < 128 := by
  unfold wdC
  match k with
  | 0 => simp [wdL]
  | 1 | 2 | 3 | 4 | 5 | 6 | 7 | 8 =>
    simp only [wdL]
    match j with
    | 0 | 1 | 2 | 3 | 4 | 5 | 6 | 7 | 8 | 9 | 10 | 11 | 12 | 13 | 14 | 15 | 16 | 17 => decide
    | j + 18 => simp
  | k + 9 => simp [wdL]
theorem wdI_len (k : Nat) : (wdI k).length = (wdL k).length := by simp [wdI]
theorem wdL_len (k : Nat) : (wdL k).length ≤ 18 := by
  match k with
  | 0 | 1 | 2 | 3 | 4 | 5 | 6 | 7 | 8 => decide
  | k + 9 => simp [wdL]
theorem wdI_get {k j : Nat} (h : j < (wdL k).length) : (wdI k).getD j 0 = nI (wdC k j) := by
  unfold wdI wdC
  simp [List.getD_eq_getElem?_getD, List.getElem?_map, h]
theorem str_recv {a v : Nat} {byt : List Int32} {A : Nat → Prop} {s : State} {H : Heap} {locs : List Loc} (h : ST1 a v byt A s s.heap) (hS : va_S A s.heap H locs) : ∃ cell : Cell, H[a]? = some cell ∧ cell.vm.isStatics = false ∧ s.vm.findClass "java/lang/String" = some cell.cls := by
  obtain ⟨cell, h1, h2, h3, -⟩ := h.1.kept hS.2.1
  exact ⟨cell, h1, h2, h3⟩
/-- the strings of the words 1 .. 7, and EMPTY of the Reader (12) and of the Writer (15) -/
theorem str_w {G : gl} {k : Nat} (h1 : 1 ≤ k) (h2 : k ≤ 7) : ∀ (A : Nat → Prop) (U : State) (H : Heap), EV G A U H → ST1 (gs G (k + 4)) (gv G (k + 4)) (wdI k) A U H := by
  intro A U H h
  obtain ⟨a1, a2, a3, a4, a5, a6, a7, a8, a9⟩ := h.2.2.1
  rcases (show k = 1 ∨ k = 2 ∨ k = 3 ∨ k = 4 ∨ k = 5 ∨ k = 6 ∨ k = 7 by omega) with rfl | rfl | rfl | rfl | rfl | rfl | rfl <;> assumption
theorem str_eR {G : gl} : ∀ (A : Nat → Prop) (U : State) (H : Heap), EV G A U H → ST1 (gs G 12) (gv G 12) (wdI 8) A U H := fun A U H h => h.2.2.1.2.2.2.2.2.2.2.1
theorem str_eT {G : gl} : ∀ (A : Nat → Prop) (U : State) (H : Heap), EV G A U H → ST1 (gs G 15) (gv G 15) (wdI 8) A U H := fun A U H h => h.2.2.1.2.2.2.2.2.2.2.2
/-- a letter made large -/
def upN (c : Nat) : Nat := if 97 ≤ c then c - 32 else c
theorem up_b : ∀ c, c < 256 → leN c = true → sb_b c &&& (-33) = nI (upN c) ∧ upN c < 128 := by decide +kernel
/-- the letters from a to b are the word k -/
abbrev wmP (t : Nat → Nat) (a b k : Nat) : Prop := b - a = (wdL k).length ∧ ∀ i, i < b - a → upN (t (a + i)) = wdC k i
def kwA (t : Nat → Nat) (a b : Nat) : Nat → Nat → Nat
  | 0, _ => 0
  | m + 1, k => if wmP t a b k then k else kwA t a b m (k + 1)
def kwF (t : Nat → Nat) (a b : Nat) : Nat := kwA t a b 7 1
def kwI (t : Nat → Nat) (a b : Nat) : Int32 := if kwF t a b = 0 then -1 else nI (kwF t a b)
theorem kwA_t {t : Nat → Nat} {a b k : Nat} (h : k ≤ 7) (hw : wmP t a b k) : kwA t a b (8 - k) k = k := by
  rw [show 8 - k = (7 - k) + 1 by omega]
  exact if_pos hw
theorem kwA_f {t : Nat → Nat} {a b k : Nat} (h : k ≤ 7) (hw : ¬ wmP t a b k) : kwA t a b (8 - k) k = kwA t a b (8 - (k + 1)) (k + 1) := by
  rw [show 8 - k = (8 - (k + 1)) + 1 by omega]
  exact if_neg hw
theorem kwF_le (t : Nat → Nat) (a b : Nat) : kwF t a b ≤ 7 := by
  unfold kwF kwA kwA kwA kwA kwA kwA kwA kwA
  repeat' split
  all_goals omega
theorem rn_all {P : Nat → Bool} {t : Nat → Nat} {n p i : Nat} (h1 : p ≤ i) (h2 : i < rn P t n p) : P (t i) = true := by
  suffices h : ∀ (d p : Nat), n - p = d → p ≤ i → i < rn P t n p → P (t i) = true from h _ p rfl h1 h2
  intro d
  induction d with
  | zero => intro p h0 h1 h2; rw [rn_stop (fun q => by omega)] at h2; omega
  | succ d ih =>
    intro p h0 h1 h2
    by_cases h : p < n ∧ P (t p) = true
    · rcases Nat.lt_or_ge p i with q | q
      · rw [rn_step h.1 h.2] at h2
        exact ih (p + 1) (by omega) q h2
      · rw [show i = p by omega]; exact h.2
    · rw [rn_stop h] at h2; omega
theorem toI_ne {a : Nat} (h : a < 2 ^ 31) : ¬ nI a = -1 := by
  intro q
  have := congrArg Int32.toInt q
  rw [nI_toInt h] at this
  have h2 : (-1 : Int32).toInt = -1 := by decide
  omega
/-- a shape's word at p, with bt brackets open: what is wrong -/
def kdR (t : Nat → Nat) (n p bt : Nat) : (Nat × Nat) ⊕ Unit :=
  if leN (hr t n p) = false then .inl (uxp (hr t n p), p)
  else if kwF t p (rn leN t n p) = 0 then .inl (2, p)
  else if kwF t p (rn leN t n p) = 7 ∧ 50 ≤ bt then .inl (6, p)
  else .inr ()

set_option maxHeartbeats 4000000 in
set_option maxRecDepth 100000 in
theorem c_JString_coder (l : Launch) (G : gl)  (sa : Nat) (sv : Nat) (k9 : Nat) (hS1 : ∀ (A : Nat → Prop) (U : State) (H : Heap), EV G A U H → ST1 sa sv (wdI k9) A U H) : YC l G y_JString_coder k_JString_coder 1 (Option.some FieldType.byte) 0 0 [.ref sa] ([]) (fun v w => v = some (.int (nI 0)) ∧ w = []) (fun _ _ => False) := by
  refine yc_of (by decide) ?_
  intro pg ev sx mm bl mt cd A C0 hP hD
  obtain ⟨hx, hb, hrt, hml, hown, hg, hlocks, hxt, hE, hK, hA, hmn⟩ := C0
  have hS : va_S A sx.heap sx.heap [] := va_S.rf
  have hl := lv_entry ([.ref sa]) (n := 1) (Nat.le_of_ble_eq_true rfl)
  rw [lg_entry_eq]
  generalize (lg_sl ([.ref sa]) ++ List.replicate (1 - (lg_sl ([.ref sa])).length) Slot.unset).toArray = ls at hl ⊢
  have hl : lv_has ls 1 [(0, .ref sa)] := hl
  obtain ⟨H, hH⟩ : ∃ H, H = sx.heap := ⟨_, rfl⟩
  rw [← hH] at hP
  have hS : va_S A sx.heap H [] := by rw [hH]; exact hS
  suffices h9 : W pg l ev (yR 0 0) sx mm _ bl mt cd H [] 0 0 (yMQ bl G A _ _ _ _ sx) (F0 mm 0 ls []) by rw [hH] at h9; exact h9
  obtain ⟨locs, hlo⟩ : ∃ locs : List Loc, locs = [] := ⟨_, rfl⟩
  rw [← hlo] at hS ⊢
  refine va_gets (v := .int (nI 1)) hx hb hE.2.2.2.2.2.1 hS hown (hg _ tk_407) (fun _ h9 => h9) d_JString_coder_0 ?_
  refine yn_if_eq (a := 1) (tgt := 13) hx hb d_JString_coder_3 (by decide) (by omega) (fun c3 => ?_) (fun c3 => ?_)
  · skip
    exact absurd c3 (by decide)
  · skip
    refine lv_aload_n hx hb d_JString_coder_6 rfl (lv_at hl 0 rfl) ?_
    refine vk_getf (v := .int 0) hx hb (hS1 _ _ _ hE).2.1 hS hown (hg _ tk_953) (fun _ h9 => h9) d_JString_coder_7 ?_
    refine lv_goto (tgt := 14) hx hb d_JString_coder_10 (by decide) ?_
    exact yr_z (ws := []) hx hb hrt (rfl) hlocks (⟨rfl, rfl⟩) rfl hK hP hD hS d_JString_coder_14
set_option maxHeartbeats 4000000 in
set_option maxRecDepth 100000 in
theorem c_JString_isLatin1 (l : Launch) (G : gl)  (sa : Nat) (sv : Nat) (k9 : Nat) (hS1 : ∀ (A : Nat → Prop) (U : State) (H : Heap), EV G A U H → ST1 sa sv (wdI k9) A U H) : YC l G y_JString_isLatin1 k_JString_isLatin1 1 (Option.some FieldType.boolean) 0 0 [.ref sa] ([]) (fun v w => v = some (.int (nI 1)) ∧ w = []) (fun _ _ => False) := by
  refine yc_of (by decide) ?_
  intro pg ev sx mm bl mt cd A C0 hP hD
  obtain ⟨hx, hb, hrt, hml, hown, hg, hlocks, hxt, hE, hK, hA, hmn⟩ := C0
  have hS : va_S A sx.heap sx.heap [] := va_S.rf
  have hl := lv_entry ([.ref sa]) (n := 1) (Nat.le_of_ble_eq_true rfl)
  rw [lg_entry_eq]
  generalize (lg_sl ([.ref sa]) ++ List.replicate (1 - (lg_sl ([.ref sa])).length) Slot.unset).toArray = ls at hl ⊢
  have hl : lv_has ls 1 [(0, .ref sa)] := hl
  obtain ⟨H, hH⟩ : ∃ H, H = sx.heap := ⟨_, rfl⟩
  rw [← hH] at hP
  have hS : va_S A sx.heap H [] := by rw [hH]; exact hS
  suffices h9 : W pg l ev (yR 0 0) sx mm _ bl mt cd H [] 0 0 (yMQ bl G A _ _ _ _ sx) (F0 mm 0 ls []) by rw [hH] at h9; exact h9
  obtain ⟨locs, hlo⟩ : ∃ locs : List Loc, locs = [] := ⟨_, rfl⟩
  rw [← hlo] at hS ⊢
  refine va_gets (v := .int (nI 1)) hx hb hE.2.2.2.2.2.1 hS hown (hg _ tk_407) (fun _ h9 => h9) d_JString_isLatin1_0 ?_
  refine yn_if_eq (a := 1) (tgt := 17) hx hb d_JString_isLatin1_3 (by decide) (by omega) (fun c3 => ?_) (fun c3 => ?_)
  · skip
    exact absurd c3 (by decide)
  · skip
    refine lv_aload_n hx hb d_JString_isLatin1_6 rfl (lv_at hl 0 rfl) ?_
    refine vk_getf (v := .int 0) hx hb (hS1 _ _ _ hE).2.1 hS hown (hg _ tk_953) (fun _ h9 => h9) d_JString_isLatin1_7 ?_
    refine lv_if_ne (tgt := 17) hx hb d_JString_isLatin1_10 (by decide) (fun c10 => ?_) (fun c10 => ?_)
    · skip
      exact absurd rfl c10
    · skip
      refine lv_iconst (v := nI 1) hx hb d_JString_isLatin1_13 (by decide) ?_
      refine lv_goto (tgt := 18) hx hb d_JString_isLatin1_14 (by decide) ?_
      exact yr_z (ws := []) hx hb hrt (rfl) hlocks (⟨rfl, rfl⟩) rfl hK hP hD hS d_JString_isLatin1_18
set_option maxHeartbeats 4000000 in
set_option maxRecDepth 100000 in
theorem c_JString_length (l : Launch) (G : gl)  (sa : Nat) (sv : Nat) (k9 : Nat) (hS1 : ∀ (A : Nat → Prop) (U : State) (H : Heap), EV G A U H → ST1 sa sv (wdI k9) A U H) : YC l G y_JString_length k_JString_length 1 (Option.some FieldType.int) 1 20 [.ref sa] ([]) (fun v w => v = some (.int (nI ((wdL k9).length))) ∧ w = []) (fun _ _ => False) := by
  refine yc_of (by decide) ?_
  intro pg ev sx mm bl mt cd A C0 hP hD
  obtain ⟨hx, hb, hrt, hml, hown, hg, hlocks, hxt, hE, hK, hA, hmn⟩ := C0
  have hS : va_S A sx.heap sx.heap [] := va_S.rf
  have hl := lv_entry ([.ref sa]) (n := 1) (Nat.le_of_ble_eq_true rfl)
  rw [lg_entry_eq]
  generalize (lg_sl ([.ref sa]) ++ List.replicate (1 - (lg_sl ([.ref sa])).length) Slot.unset).toArray = ls at hl ⊢
  have hl : lv_has ls 1 [(0, .ref sa)] := hl
  have hwl := wdL_len k9
  obtain ⟨H, hH⟩ : ∃ H, H = sx.heap := ⟨_, rfl⟩
  rw [← hH] at hP
  have hS : va_S A sx.heap H [] := by rw [hH]; exact hS
  suffices h9 : W pg l ev (yR 1 20) sx mm _ bl mt cd H [] 0 0 (yMQ bl G A _ _ _ _ sx) (F0 mm 0 ls []) by rw [hH] at h9; exact h9
  obtain ⟨locs, hlo⟩ : ∃ locs : List Loc, locs = [] := ⟨_, rfl⟩
  rw [← hlo] at hS ⊢
  refine lv_aload_n hx hb d_JString_length_0 rfl (lv_at hl 0 rfl) ?_
  refine vk_getf (v := .ref sv) hx hb (hS1 _ _ _ hE).2.2.1 hS hown (hg _ tk_952) (fun _ h9 => h9) d_JString_length_1 ?_
  refine va_tlen hx hb (hS1 _ _ _ hE).2.2.2 hS (v := nI ((wdL k9).length)) (congrArg nI (wdI_len k9)) d_JString_length_4 ?_
  refine lv_aload_n hx hb d_JString_length_5 rfl (lv_at hl 0 rfl) ?_
  refine y_call (y_runV (As := []) (rest := [.int (nI ((wdL k9).length))]) hx hb hml hown (c_JString_coder l G  sa sv k9 (hS1)) (gV (n := 0) hg tk_403 tk_404 tk_405 tk_14 tk_406 (by decide +kernel) ⟨Nat.le_of_ble_eq_true rfl, Nat.le_of_ble_eq_true rfl⟩) (str_recv (hS1 _ _ _ hE) hS) (y_pre hE hK hP hD hS hA [] rfl rfl) rfl rfl hl.1 rfl (lv_room (Nat.le_of_ble_eq_true rfl)) d_JString_length_6 ⟨Nat.le_of_ble_eq_true rfl, Nat.le_of_ble_eq_true rfl⟩) hP hD hS hA [] rfl (fun _ _ _ _ _ _ hp => False.elim hp) (fun v w H locs hp hlw hP hD hS => ?_)
  obtain ⟨rfl, rfl⟩ := hp
  have hP : va_P (gD G) vwC ([]) H := hP
  have hD : va_D A ([]) := hD
  refine W.eq (g2 := F0 mm 9 ls [.int (nI 0), .int (nI ((wdL k9).length))]) rfl ?_
  refine lv_ishr hx hb d_JString_length_9 ?_
  refine y_eqi (y := nI ((wdL k9).length)) (sc_shr0 (by omega)) ?_
  exact yr_i (ws := []) hx hb hrt hlocks (⟨rfl, rfl⟩) rfl hK hP hD hS d_JString_length_10
set_option maxHeartbeats 4000000 in
set_option maxRecDepth 100000 in
theorem c_JPreconditions_checkIndex (l : Launch) (G : gl)  (i : Nat) (m : Nat) (hi : i < m) (hm : m < 2 ^ 31) : YC l G y_JPreconditions_checkIndex k_JPreconditions_checkIndex 3 (Option.some FieldType.int) 0 0 [.int (nI i), .int (nI m), .null] ([]) (fun v w => v = some (.int (nI i)) ∧ w = []) (fun _ _ => False) := by
  refine yc_of (by decide) ?_
  intro pg ev sx mm bl mt cd A C0 hP hD
  obtain ⟨hx, hb, hrt, hml, hown, hg, hlocks, hxt, hE, hK, hA, hmn⟩ := C0
  have hS : va_S A sx.heap sx.heap [] := va_S.rf
  have hl := lv_entry ([.int (nI i), .int (nI m), .null]) (n := 3) (Nat.le_of_ble_eq_true rfl)
  rw [lg_entry_eq]
  generalize (lg_sl ([.int (nI i), .int (nI m), .null]) ++ List.replicate (3 - (lg_sl ([.int (nI i), .int (nI m), .null])).length) Slot.unset).toArray = ls at hl ⊢
  have hl : lv_has ls 3 [(0, .int (nI i)), (1, .int (nI m)), (2, .null)] := hl
  obtain ⟨H, hH⟩ : ∃ H, H = sx.heap := ⟨_, rfl⟩
  rw [← hH] at hP
  have hS : va_S A sx.heap H [] := by rw [hH]; exact hS
  suffices h9 : W pg l ev (yR 0 0) sx mm _ bl mt cd H [] 0 0 (yMQ bl G A _ _ _ _ sx) (F0 mm 0 ls []) by rw [hH] at h9; exact h9
  obtain ⟨locs, hlo⟩ : ∃ locs : List Loc, locs = [] := ⟨_, rfl⟩
  rw [← hlo] at hS ⊢
  refine lv_iload_n hx hb d_JPreconditions_checkIndex_0 rfl (lv_at hl 0 rfl) ?_
  refine yn_if_lt (a := i) (tgt := 9) hx hb d_JPreconditions_checkIndex_1 (by decide) (by omega) (fun c1 => ?_) (fun c1 => ?_)
  · skip
    exact c1.elim
  · skip
    refine lv_iload_n hx hb d_JPreconditions_checkIndex_4 rfl (lv_at hl 0 rfl) ?_
    refine lv_iload_n hx hb d_JPreconditions_checkIndex_5 rfl (lv_at hl 1 rfl) ?_
    refine yn_icmp_lt (a := i) (b := m) (tgt := 16) hx hb d_JPreconditions_checkIndex_6 (by decide) (by omega) (by omega) (fun c6 => ?_) (fun c6 => ?_)
    · skip
      refine lv_iload_n hx hb d_JPreconditions_checkIndex_16 rfl (lv_at hl 0 rfl) ?_
      exact yr_i (ws := []) hx hb hrt hlocks (⟨rfl, rfl⟩) rfl hK hP hD hS d_JPreconditions_checkIndex_17
    · skip
      exact absurd c6 (by omega)
set_option maxHeartbeats 4000000 in
set_option maxRecDepth 100000 in
theorem c_JPreconditions_checkIndexR (l : Launch) (G : gl)  (i : Nat) (m : Nat) (q : Nat) (hi : i < m) (hm : m < 2 ^ 31) : YC l G y_JPreconditions_checkIndex k_JPreconditions_checkIndex 3 (Option.some FieldType.int) 0 0 [.int (nI i), .int (nI m), .ref q] ([]) (fun v w => v = some (.int (nI i)) ∧ w = []) (fun _ _ => False) := by
  refine yc_of (by decide) ?_
  intro pg ev sx mm bl mt cd A C0 hP hD
  obtain ⟨hx, hb, hrt, hml, hown, hg, hlocks, hxt, hE, hK, hA, hmn⟩ := C0
  have hS : va_S A sx.heap sx.heap [] := va_S.rf
  have hl := lv_entry ([.int (nI i), .int (nI m), .ref q]) (n := 3) (Nat.le_of_ble_eq_true rfl)
  rw [lg_entry_eq]
  generalize (lg_sl ([.int (nI i), .int (nI m), .ref q]) ++ List.replicate (3 - (lg_sl ([.int (nI i), .int (nI m), .ref q])).length) Slot.unset).toArray = ls at hl ⊢
  have hl : lv_has ls 3 [(0, .int (nI i)), (1, .int (nI m)), (2, .ref q)] := hl
  obtain ⟨H, hH⟩ : ∃ H, H = sx.heap := ⟨_, rfl⟩
  rw [← hH] at hP
  have hS : va_S A sx.heap H [] := by rw [hH]; exact hS
  suffices h9 : W pg l ev (yR 0 0) sx mm _ bl mt cd H [] 0 0 (yMQ bl G A _ _ _ _ sx) (F0 mm 0 ls []) by rw [hH] at h9; exact h9
  obtain ⟨locs, hlo⟩ : ∃ locs : List Loc, locs = [] := ⟨_, rfl⟩
  rw [← hlo] at hS ⊢
  refine lv_iload_n hx hb d_JPreconditions_checkIndex_0 rfl (lv_at hl 0 rfl) ?_
  refine yn_if_lt (a := i) (tgt := 9) hx hb d_JPreconditions_checkIndex_1 (by decide) (by omega) (fun c1 => ?_) (fun c1 => ?_)
  · skip
    exact c1.elim
  · skip
    refine lv_iload_n hx hb d_JPreconditions_checkIndex_4 rfl (lv_at hl 0 rfl) ?_
    refine lv_iload_n hx hb d_JPreconditions_checkIndex_5 rfl (lv_at hl 1 rfl) ?_
    refine yn_icmp_lt (a := i) (b := m) (tgt := 16) hx hb d_JPreconditions_checkIndex_6 (by decide) (by omega) (by omega) (fun c6 => ?_) (fun c6 => ?_)
    · skip
      refine lv_iload_n hx hb d_JPreconditions_checkIndex_16 rfl (lv_at hl 0 rfl) ?_
      exact yr_i (ws := []) hx hb hrt hlocks (⟨rfl, rfl⟩) rfl hK hP hD hS d_JPreconditions_checkIndex_17
    · skip
      exact absurd c6 (by omega)
set_option maxHeartbeats 4000000 in
set_option maxRecDepth 100000 in
theorem c_JString_checkIndex (l : Launch) (G : gl)  (i : Nat) (m : Nat) (hi : i < m) (hm : m < 2 ^ 31) : YC l G y_JString_checkIndex k_JString_checkIndex 2 (Option.none : Option FieldType) 1 22 [.int (nI i), .int (nI m)] ([]) (fun v w => v = none ∧ w = []) (fun _ _ => False) := by
  refine yc_of (by decide) ?_
  intro pg ev sx mm bl mt cd A C0 hP hD
  obtain ⟨hx, hb, hrt, hml, hown, hg, hlocks, hxt, hE, hK, hA, hmn⟩ := C0
  have hS : va_S A sx.heap sx.heap [] := va_S.rf
  have hl := lv_entry ([.int (nI i), .int (nI m)]) (n := 2) (Nat.le_of_ble_eq_true rfl)
  rw [lg_entry_eq]
  generalize (lg_sl ([.int (nI i), .int (nI m)]) ++ List.replicate (2 - (lg_sl ([.int (nI i), .int (nI m)])).length) Slot.unset).toArray = ls at hl ⊢
  have hl : lv_has ls 2 [(0, .int (nI i)), (1, .int (nI m))] := hl
  obtain ⟨H, hH⟩ : ∃ H, H = sx.heap := ⟨_, rfl⟩
  rw [← hH] at hP
  have hS : va_S A sx.heap H [] := by rw [hH]; exact hS
  suffices h9 : W pg l ev (yR 1 22) sx mm _ bl mt cd H [] 0 0 (yMQ bl G A _ _ _ _ sx) (F0 mm 0 ls []) by rw [hH] at h9; exact h9
  obtain ⟨locs, hlo⟩ : ∃ locs : List Loc, locs = [] := ⟨_, rfl⟩
  rw [← hlo] at hS ⊢
  refine lv_iload_n hx hb d_JString_checkIndex_0 rfl (lv_at hl 0 rfl) ?_
  refine lv_iload_n hx hb d_JString_checkIndex_1 rfl (lv_at hl 1 rfl) ?_
  rcases hE.2.2.2.2.2.2 with h9 | ⟨q9, h9⟩
  · skip
    refine va_gets (v := .null) hx hb h9 hS hown (hg _ tk_423) (fun _ h9 => h9) d_JString_checkIndex_2 ?_
    refine y_call (y_runS (As := [.int (nI i), .int (nI m), .null]) (rest := []) hx hb hml hown (c_JPreconditions_checkIndex l G  i m (by omega) (by omega)) (gS (n := 3) hg tk_425 tk_426 tk_16 tk_427 (by decide +kernel) ⟨Nat.le_of_ble_eq_true rfl, Nat.le_of_ble_eq_true rfl⟩) (y_pre hE hK hP hD hS hA [] rfl rfl) rfl rfl hl.1 rfl (lv_room (Nat.le_of_ble_eq_true rfl)) d_JString_checkIndex_5 ⟨Nat.le_of_ble_eq_true rfl, Nat.le_of_ble_eq_true rfl⟩) hP hD hS hA [] rfl (fun _ _ _ _ _ _ hp => False.elim hp) (fun v w H locs hp hlw hP hD hS => ?_)
    obtain ⟨rfl, rfl⟩ := hp
    have hP : va_P (gD G) vwC ([]) H := hP
    have hD : va_D A ([]) := hD
    refine W.eq (g2 := F0 mm 8 ls [.int (nI i)]) rfl ?_
    refine lv_pop hx hb d_JString_checkIndex_8 rfl ?_
    exact yr_v (ws := []) hx hb hrt hlocks (⟨rfl, rfl⟩) rfl hK hP hD hS d_JString_checkIndex_9
  · skip
    refine va_gets (v := .ref q9) hx hb h9 hS hown (hg _ tk_423) (fun _ h9 => h9) d_JString_checkIndex_2 ?_
    refine y_call (y_runS (As := [.int (nI i), .int (nI m), .ref q9]) (rest := []) hx hb hml hown (c_JPreconditions_checkIndexR l G  i m q9 (by omega) (by omega)) (gS (n := 3) hg tk_425 tk_426 tk_16 tk_427 (by decide +kernel) ⟨Nat.le_of_ble_eq_true rfl, Nat.le_of_ble_eq_true rfl⟩) (y_pre hE hK hP hD hS hA [] rfl rfl) rfl rfl hl.1 rfl (lv_room (Nat.le_of_ble_eq_true rfl)) d_JString_checkIndex_5 ⟨Nat.le_of_ble_eq_true rfl, Nat.le_of_ble_eq_true rfl⟩) hP hD hS hA [] rfl (fun _ _ _ _ _ _ hp => False.elim hp) (fun v w H locs hp hlw hP hD hS => ?_)
    obtain ⟨rfl, rfl⟩ := hp
    have hP : va_P (gD G) vwC ([]) H := hP
    have hD : va_D A ([]) := hD
    refine W.eq (g2 := F0 mm 8 ls [.int (nI i)]) rfl ?_
    refine lv_pop hx hb d_JString_checkIndex_8 rfl ?_
    exact yr_v (ws := []) hx hb hrt hlocks (⟨rfl, rfl⟩) rfl hK hP hD hS d_JString_checkIndex_9
set_option maxHeartbeats 4000000 in
set_option maxRecDepth 100000 in
theorem c_JStringLatin1_charAt (l : Launch) (G : gl)  (sa : Nat) (sv : Nat) (k9 : Nat) (i : Nat) (hS1 : ∀ (A : Nat → Prop) (U : State) (H : Heap), EV G A U H → ST1 sa sv (wdI k9) A U H) (hi : i < (wdL k9).length) : YC l G y_JStringLatin1_charAt k_JStringLatin1_charAt 2 (Option.some FieldType.char) 2 43 [.ref sv, .int (nI i)] ([]) (fun v w => v = some (.int (nI (wdC k9 i))) ∧ w = []) (fun _ _ => False) := by
  refine yc_of (by decide) ?_
  intro pg ev sx mm bl mt cd A C0 hP hD
  obtain ⟨hx, hb, hrt, hml, hown, hg, hlocks, hxt, hE, hK, hA, hmn⟩ := C0
  have hS : va_S A sx.heap sx.heap [] := va_S.rf
  have hl := lv_entry ([.ref sv, .int (nI i)]) (n := 2) (Nat.le_of_ble_eq_true rfl)
  rw [lg_entry_eq]
  generalize (lg_sl ([.ref sv, .int (nI i)]) ++ List.replicate (2 - (lg_sl ([.ref sv, .int (nI i)])).length) Slot.unset).toArray = ls at hl ⊢
  have hl : lv_has ls 2 [(0, .ref sv), (1, .int (nI i))] := hl
  have hwl := wdL_len k9
  have hwc := wdC_lt k9 i
  obtain ⟨H, hH⟩ : ∃ H, H = sx.heap := ⟨_, rfl⟩
  rw [← hH] at hP
  have hS : va_S A sx.heap H [] := by rw [hH]; exact hS
  suffices h9 : W pg l ev (yR 2 43) sx mm _ bl mt cd H [] 0 0 (yMQ bl G A _ _ _ _ sx) (F0 mm 0 ls []) by rw [hH] at h9; exact h9
  obtain ⟨locs, hlo⟩ : ∃ locs : List Loc, locs = [] := ⟨_, rfl⟩
  rw [← hlo] at hS ⊢
  refine lv_iload_n hx hb d_JStringLatin1_charAt_0 rfl (lv_at hl 1 rfl) ?_
  refine lv_aload_n hx hb d_JStringLatin1_charAt_1 rfl (lv_at hl 0 rfl) ?_
  refine va_tlen hx hb (hS1 _ _ _ hE).2.2.2 hS (v := nI ((wdL k9).length)) (congrArg nI (wdI_len k9)) d_JStringLatin1_charAt_2 ?_
  refine y_call (y_runS (As := [.int (nI i), .int (nI ((wdL k9).length))]) (rest := []) hx hb hml hown (c_JString_checkIndex l G  i ((wdL k9).length) (by omega) (by omega)) (gS (n := 2) hg tk_420 tk_421 tk_14 tk_422 (by decide +kernel) ⟨Nat.le_of_ble_eq_true rfl, Nat.le_of_ble_eq_true rfl⟩) (y_pre hE hK hP hD hS hA [] rfl rfl) rfl rfl hl.1 rfl (lv_room (Nat.le_of_ble_eq_true rfl)) d_JStringLatin1_charAt_3 ⟨Nat.le_of_ble_eq_true rfl, Nat.le_of_ble_eq_true rfl⟩) hP hD hS hA [] rfl (fun _ _ _ _ _ _ hp => False.elim hp) (fun v w H locs hp hlw hP hD hS => ?_)
  obtain ⟨rfl, rfl⟩ := hp
  have hP : va_P (gD G) vwC ([]) H := hP
  have hD : va_D A ([]) := hD
  refine W.eq (g2 := F0 mm 6 ls []) rfl ?_
  refine lv_aload_n hx hb d_JStringLatin1_charAt_6 rfl (lv_at hl 0 rfl) ?_
  refine lv_iload_n hx hb d_JStringLatin1_charAt_7 rfl (lv_at hl 1 rfl) ?_
  refine va_tb hx hb (hS1 _ _ _ hE).2.2.2 hS (i := nI i) (vp_in_nI (by rw [wdI_len]; exact hi) (by rw [wdI_len]; have := wdL_len k9; omega)) (v := .int (nI (wdC k9 i))) (by rw [nI_clamp (by have := wdL_len k9; omega), wdI_get hi]) d_JStringLatin1_charAt_8 ?_
  refine lv_sipush (v := nI 255) hx hb d_JStringLatin1_charAt_9 (by decide) ?_
  refine lv_iand hx hb d_JStringLatin1_charAt_12 ?_
  refine y_eqi (y := nI (wdC k9 i)) ((pk_andN (by omega) 8 (by decide)).trans (congrArg nI (by omega))) ?_
  refine lv_i2c hx hb d_JStringLatin1_charAt_13 (v := nI (wdC k9 i)) ((sb_byte _ (by omega)).2.1) ?_
  exact yr_z (ws := []) hx hb hrt ((pk_charN (by omega)).1) hlocks (⟨rfl, rfl⟩) rfl hK hP hD hS d_JStringLatin1_charAt_14
set_option maxHeartbeats 4000000 in
set_option maxRecDepth 100000 in
theorem c_JString_charAt (l : Launch) (G : gl)  (sa : Nat) (sv : Nat) (k9 : Nat) (i : Nat) (hS1 : ∀ (A : Nat → Prop) (U : State) (H : Heap), EV G A U H → ST1 sa sv (wdI k9) A U H) (hi : i < (wdL k9).length) : YC l G y_JString_charAt k_JString_charAt 2 (Option.some FieldType.char) 3 64 [.ref sa, .int (nI i)] ([]) (fun v w => v = some (.int (nI (wdC k9 i))) ∧ w = []) (fun _ _ => False) := by
  refine yc_of (by decide) ?_
  intro pg ev sx mm bl mt cd A C0 hP hD
  obtain ⟨hx, hb, hrt, hml, hown, hg, hlocks, hxt, hE, hK, hA, hmn⟩ := C0
  have hS : va_S A sx.heap sx.heap [] := va_S.rf
  have hl := lv_entry ([.ref sa, .int (nI i)]) (n := 2) (Nat.le_of_ble_eq_true rfl)
  rw [lg_entry_eq]
  generalize (lg_sl ([.ref sa, .int (nI i)]) ++ List.replicate (2 - (lg_sl ([.ref sa, .int (nI i)])).length) Slot.unset).toArray = ls at hl ⊢
  have hl : lv_has ls 2 [(0, .ref sa), (1, .int (nI i))] := hl
  have hwl := wdL_len k9
  have hwc := wdC_lt k9 i
  obtain ⟨H, hH⟩ : ∃ H, H = sx.heap := ⟨_, rfl⟩
  rw [← hH] at hP
  have hS : va_S A sx.heap H [] := by rw [hH]; exact hS
  suffices h9 : W pg l ev (yR 3 64) sx mm _ bl mt cd H [] 0 0 (yMQ bl G A _ _ _ _ sx) (F0 mm 0 ls []) by rw [hH] at h9; exact h9
  obtain ⟨locs, hlo⟩ : ∃ locs : List Loc, locs = [] := ⟨_, rfl⟩
  rw [← hlo] at hS ⊢
  refine lv_aload_n hx hb d_JString_charAt_0 rfl (lv_at hl 0 rfl) ?_
  refine y_call (y_runV (As := []) (rest := []) hx hb hml hown (c_JString_isLatin1 l G  sa sv k9 (hS1)) (gV (n := 0) hg tk_413 tk_414 tk_415 tk_14 tk_416 (by decide +kernel) ⟨Nat.le_of_ble_eq_true rfl, Nat.le_of_ble_eq_true rfl⟩) (str_recv (hS1 _ _ _ hE) hS) (y_pre hE hK hP hD hS hA [] rfl rfl) rfl rfl hl.1 rfl (lv_room (Nat.le_of_ble_eq_true rfl)) d_JString_charAt_1 ⟨Nat.le_of_ble_eq_true rfl, Nat.le_of_ble_eq_true rfl⟩) hP hD hS hA [] rfl (fun _ _ _ _ _ _ hp => False.elim hp) (fun v w H locs hp hlw hP hD hS => ?_)
  obtain ⟨rfl, rfl⟩ := hp
  have hP : va_P (gD G) vwC ([]) H := hP
  have hD : va_D A ([]) := hD
  refine W.eq (g2 := F0 mm 4 ls [.int (nI 1)]) rfl ?_
  refine yn_if_eq (a := 1) (tgt := 16) hx hb d_JString_charAt_4 (by decide) (by omega) (fun c4 => ?_) (fun c4 => ?_)
  · skip
    exact absurd c4 (by decide)
  · skip
    refine lv_aload_n hx hb d_JString_charAt_7 rfl (lv_at hl 0 rfl) ?_
    refine vk_getf (v := .ref sv) hx hb (hS1 _ _ _ hE).2.2.1 hS hown (hg _ tk_952) (fun _ h9 => h9) d_JString_charAt_8 ?_
    refine lv_iload_n hx hb d_JString_charAt_11 rfl (lv_at hl 1 rfl) ?_
    refine y_call (y_runS (As := [.ref sv, .int (nI i)]) (rest := []) hx hb hml hown (c_JStringLatin1_charAt l G  sa sv k9 i (hS1) (hi)) (gS (n := 2) hg tk_417 tk_418 tk_15 tk_419 (by decide +kernel) ⟨Nat.le_of_ble_eq_true rfl, Nat.le_of_ble_eq_true rfl⟩) (y_pre hE hK hP hD hS hA [] rfl rfl) rfl rfl hl.1 rfl (lv_room (Nat.le_of_ble_eq_true rfl)) d_JString_charAt_12 ⟨Nat.le_of_ble_eq_true rfl, Nat.le_of_ble_eq_true rfl⟩) hP hD hS hA [] rfl (fun _ _ _ _ _ _ hp => False.elim hp) (fun v w H locs hp hlw hP hD hS => ?_)
    obtain ⟨rfl, rfl⟩ := hp
    have hP : va_P (gD G) vwC ([]) H := hP
    have hD : va_D A ([]) := hD
    refine W.eq (g2 := F0 mm 15 ls [.int (nI (wdC k9 i))]) rfl ?_
    exact yr_z (ws := []) hx hb hrt ((pk_charN (by omega)).1) hlocks (⟨rfl, rfl⟩) rfl hK hP hD hS d_JString_charAt_15
set_option maxHeartbeats 4000000 in
set_option maxRecDepth 100000 in
theorem c_W_wordOf (l : Launch) (G : gl)  (k : Nat) (h1 : 1 ≤ k) (h2 : k ≤ 7) : YC l G y_W_wordOf k_W_wordOf 1 (Option.some (FieldType.object "java/lang/String")) 0 0 [.int (nI k)] ([]) (fun v w => v = some (.ref (gs G (k + 4))) ∧ w = []) (fun _ _ => False) := by
  refine yc_of (by decide) ?_
  intro pg ev sx mm bl mt cd A C0 hP hD
  obtain ⟨hx, hb, hrt, hml, hown, hg, hlocks, hxt, hE, hK, hA, hmn⟩ := C0
  have hS : va_S A sx.heap sx.heap [] := va_S.rf
  have hl := lv_entry ([.int (nI k)]) (n := 1) (Nat.le_of_ble_eq_true rfl)
  rw [lg_entry_eq]
  generalize (lg_sl ([.int (nI k)]) ++ List.replicate (1 - (lg_sl ([.int (nI k)])).length) Slot.unset).toArray = ls at hl ⊢
  have hl : lv_has ls 1 [(0, .int (nI k))] := hl
  obtain ⟨H, hH⟩ : ∃ H, H = sx.heap := ⟨_, rfl⟩
  rw [← hH] at hP
  have hS : va_S A sx.heap H [] := by rw [hH]; exact hS
  suffices h9 : W pg l ev (yR 0 0) sx mm _ bl mt cd H [] 0 0 (yMQ bl G A _ _ _ _ sx) (F0 mm 0 ls []) by rw [hH] at h9; exact h9
  obtain ⟨locs, hlo⟩ : ∃ locs : List Loc, locs = [] := ⟨_, rfl⟩
  rw [← hlo] at hS ⊢
  refine lv_iload_n hx hb d_W_wordOf_0 rfl (lv_at hl 0 rfl) ?_
  rcases (show k = 1 ∨ k = 2 ∨ k = 3 ∨ k = 4 ∨ k = 5 ∨ k = 6 ∨ k = 7 by omega) with rfl | rfl | rfl | rfl | rfl | rfl | rfl
  · skip
    refine lv_tableIn (off := 39) (tgt := 40) hx hb d_W_wordOf_1 (by decide) (by decide) rfl (by decide) ?_
    refine va_ldcS hx hb hown (sr_388 hE.2.1) d_W_wordOf_40 ?_
    exact yr_a (ws := []) hx hb hrt (Or.inl ⟨_, rfl⟩) hlocks (⟨rfl, rfl⟩) rfl hK hP hD hS d_W_wordOf_42
  · skip
    refine lv_tableIn (off := 42) (tgt := 43) hx hb d_W_wordOf_1 (by decide) (by decide) rfl (by decide) ?_
    refine va_ldcS hx hb hown (sr_389 hE.2.1) d_W_wordOf_43 ?_
    exact yr_a (ws := []) hx hb hrt (Or.inl ⟨_, rfl⟩) hlocks (⟨rfl, rfl⟩) rfl hK hP hD hS d_W_wordOf_45
  · skip
    refine lv_tableIn (off := 45) (tgt := 46) hx hb d_W_wordOf_1 (by decide) (by decide) rfl (by decide) ?_
    refine va_ldcS hx hb hown (sr_390 hE.2.1) d_W_wordOf_46 ?_
    exact yr_a (ws := []) hx hb hrt (Or.inl ⟨_, rfl⟩) hlocks (⟨rfl, rfl⟩) rfl hK hP hD hS d_W_wordOf_48
  · skip
    refine lv_tableIn (off := 48) (tgt := 49) hx hb d_W_wordOf_1 (by decide) (by decide) rfl (by decide) ?_
    refine va_ldcS hx hb hown (sr_391 hE.2.1) d_W_wordOf_49 ?_
    exact yr_a (ws := []) hx hb hrt (Or.inl ⟨_, rfl⟩) hlocks (⟨rfl, rfl⟩) rfl hK hP hD hS d_W_wordOf_51
  · skip
    refine lv_tableIn (off := 51) (tgt := 52) hx hb d_W_wordOf_1 (by decide) (by decide) rfl (by decide) ?_
    refine va_ldcS hx hb hown (sr_392 hE.2.1) d_W_wordOf_52 ?_
    exact yr_a (ws := []) hx hb hrt (Or.inl ⟨_, rfl⟩) hlocks (⟨rfl, rfl⟩) rfl hK hP hD hS d_W_wordOf_54
  · skip
    refine lv_tableIn (off := 54) (tgt := 55) hx hb d_W_wordOf_1 (by decide) (by decide) rfl (by decide) ?_
    refine va_ldcS hx hb hown (sr_393 hE.2.1) d_W_wordOf_55 ?_
    exact yr_a (ws := []) hx hb hrt (Or.inl ⟨_, rfl⟩) hlocks (⟨rfl, rfl⟩) rfl hK hP hD hS d_W_wordOf_57
  · skip
    refine lv_tableOut (tgt := 58) hx hb d_W_wordOf_1 (by decide) (by decide) ?_
    refine va_ldcS hx hb hown (sr_394 hE.2.1) d_W_wordOf_58 ?_
    exact yr_a (ws := []) hx hb hrt (Or.inl ⟨_, rfl⟩) hlocks (⟨rfl, rfl⟩) rfl hK hP hD hS d_W_wordOf_60
set_option maxHeartbeats 4000000 in
set_option maxRecDepth 100000 in
theorem c_R_isWord (l : Launch) (G : gl) (h : Nat → Nat) (dg : Nat) (n : Nat) (p : Nat) (fk : Nat) (fp : Nat) (t : Nat → Nat) (np : Nat) (no : Nat) (k : Nat) (c : Nat) (f : Nat → Int32) (o : Nat → Int32) (bt : Nat) (bk : Nat → Int32) (bn : Nat → Int32) (b : Nat) (sa : Nat) (sv : Nat) (k9 : Nat) (hn : n ≤ 65536) (hp : p ≤ n) (ht : ∀ i, t i < 256) (hS1 : ∀ (A : Nat → Prop) (U : State) (H : Heap), EV G A U H → ST1 sa sv (wdI k9) A U H) (hbp : b ≤ p) (hlet : ∀ i, b ≤ i → i < p → leN (t i) = true) : YC l G y_R_isWord k_R_isWord 4 (Option.some FieldType.boolean) 4 85 [.ref (h 0), .int (nI b), .ref sa] (wR G h dg n p fk fp t np no k c f o bt bk bn) (fun v w => v = some (.int (bz (decide (wmP t b p k9)))) ∧ w = wR G h dg n p fk fp t np no k c f o bt bk bn) (fun _ _ => False) := by
  refine yc_of (by decide) ?_
  intro pg ev sx mm bl mt cd A C0 hP hD
  obtain ⟨hx, hb, hrt, hml, hown, hg, hlocks, hxt, hE, hK, hA, hmn⟩ := C0
  have hS : va_S A sx.heap sx.heap [] := va_S.rf
  have hl := lv_entry ([.ref (h 0), .int (nI b), .ref sa]) (n := 4) (Nat.le_of_ble_eq_true rfl)
  rw [lg_entry_eq]
  generalize (lg_sl ([.ref (h 0), .int (nI b), .ref sa]) ++ List.replicate (4 - (lg_sl ([.ref (h 0), .int (nI b), .ref sa])).length) Slot.unset).toArray = ls at hl ⊢
  have hl : lv_has ls 4 [(0, .ref (h 0)), (1, .int (nI b)), (2, .ref sa)] := hl
  have hwl := wdL_len k9
  obtain ⟨H, hH⟩ : ∃ H, H = sx.heap := ⟨_, rfl⟩
  rw [← hH] at hP
  have hS : va_S A sx.heap H [] := by rw [hH]; exact hS
  suffices h9 : W pg l ev (yR 4 85) sx mm _ bl mt cd H [] 0 0 (yMQ bl G A _ _ _ _ sx) (F0 mm 0 ls []) by rw [hH] at h9; exact h9
  obtain ⟨locs, hlo⟩ : ∃ locs : List Loc, locs = [] := ⟨_, rfl⟩
  rw [← hlo] at hS ⊢
  have J17 : ∀ (n9 : Nat) (i : Nat) (hm9 : p - i < n9) (hi1 : b ≤ i) (hi2 : i ≤ p) (hle : p - b = (wdL k9).length) (hq : ∀ j, j < i - b → upN (t (b + j)) = wdC k9 j) (H : Heap) (locs : List Loc) (ls : Array Slot), va_P (gD G) vwC (wR G h dg n p fk fp t np no k c f o bt bk bn) H → va_D A (wR G h dg n p fk fp t np no k c f o bt bk bn) → va_S A sx.heap H locs → lv_has ls 4 [(0, .ref (h 0)), (1, .int (nI b)), (2, .ref sa), (3, .int (nI i))] → W pg l ev (yR 4 85) sx mm ([.ref (h 0), .int (nI b), .ref sa] : List Value).toArray bl mt cd H locs 0 0 (yMQ bl G A (wR G h dg n p fk fp t np no k c f o bt bk bn).length (fun v w => v = some (.int (bz (decide (wmP t b p k9)))) ∧ w = wR G h dg n p fk fp t np no k c f o bt bk bn) (fun _ _ => False) ([.ref (h 0), .int (nI b), .ref sa] : List Value).toArray sx) (F0 mm 17 ls []) := by
    intro n9
    induction n9 with
    | zero => intro i hm9; exact absurd hm9 (Nat.not_lt_zero _)
    | succ n9 ih9 =>
      intro i hm9 hi1 hi2 hle hq H locs ls hP hD hS hl
      refine lv_iload_n hx hb d_R_isWord_17 rfl (lv_at hl 3 rfl) ?_
      refine lv_aload_n hx hb d_R_isWord_18 rfl (lv_at hl 0 rfl) ?_
      refine va_get (D := gD G) (ci := 1) (v := .int (nI p)) (C := "WordShapes$Reader") (T := TR) (N := 8) hx hb hg iw_R hown hK hP 0 rfl rfl 5 (by decide) (hg _ tk_92) (fun _ h9 => h9) rfl d_R_isWord_19 ?_
      refine yn_icmp_ge (a := i) (b := p) (tgt := 52) hx hb d_R_isWord_22 (by decide) (by omega) (by omega) (fun c22 => ?_) (fun c22 => ?_)
      · skip
        refine lv_iconst (v := nI 1) hx hb d_R_isWord_52 (by decide) ?_
        exact yr_z (ws := wR G h dg n p fk fp t np no k c f o bt bk bn) hx hb hrt (rfl) hlocks (⟨congrArg (fun z => some (Value.int z)) (bz_t (by first | (intro y; exact c10 y.1) | exact ⟨hle, fun j hj => hq j (by omega)⟩ | (intro y; have := y.2 (i - b) (by omega); rw [show b + (i - b) = i by omega] at this; exact c41 this))), rfl⟩) rfl hK hP hD hS d_R_isWord_53
      · skip
        refine lv_aload_n hx hb d_R_isWord_25 rfl (lv_at hl 0 rfl) ?_
        refine va_get (D := gD G) (ci := 1) (v := .ref (h 1)) (C := "WordShapes$Reader") (T := TR) (N := 8) hx hb hg iw_R hown hK hP 0 rfl rfl 0 (by decide) (hg _ tk_86) (fun _ h9 => h9) rfl d_R_isWord_26 ?_
        refine lv_iload_n hx hb d_R_isWord_29 rfl (lv_at hl 3 rfl) ?_
        refine yn_bald hx hb hK hP 1 1 rfl rfl (j := i) (x := sb_b (t i)) (rfl) (by omega) (by omega) d_R_isWord_30 ?_
        refine lv_bipush (v := (-33)) hx hb d_R_isWord_31 (by decide) ?_
        refine lv_iand hx hb d_R_isWord_33 ?_
        refine y_eqi (y := nI (upN (t i))) ((up_b _ (ht i) (hlet i (by omega) (by omega))).1) ?_
        have hup := (up_b _ (ht i) (hlet i (by omega) (by omega))).2
        have hwc := wdC_lt k9 (i - b)
        refine lv_aload_n hx hb d_R_isWord_34 rfl (lv_at hl 2 rfl) ?_
        refine lv_iload_n hx hb d_R_isWord_35 rfl (lv_at hl 3 rfl) ?_
        refine lv_iload_n hx hb d_R_isWord_36 rfl (lv_at hl 1 rfl) ?_
        refine lv_isub hx hb d_R_isWord_37 ?_
        refine y_eqi (pk_sub (by omega)) ?_
        refine y_call (y_runV (As := [.int (nI (i - b))]) (rest := [.int (nI (upN (t i)))]) hx hb hml hown (c_JString_charAt l G  sa sv k9 (i - b) (hS1) (by omega)) (gV (n := 1) hg tk_409 tk_410 tk_411 tk_14 tk_412 (by decide +kernel) ⟨Nat.le_of_ble_eq_true rfl, Nat.le_of_ble_eq_true rfl⟩) (str_recv (hS1 _ _ _ hE) hS) (y_pre hE hK hP hD hS hA [] rfl rfl) rfl rfl hl.1 rfl (lv_room (Nat.le_of_ble_eq_true rfl)) d_R_isWord_38 ⟨Nat.le_of_ble_eq_true rfl, Nat.le_of_ble_eq_true rfl⟩) hP hD hS hA [] rfl (fun _ _ _ _ _ _ hp => False.elim hp) (fun v w H locs hp hlw hP hD hS => ?_)
        obtain ⟨rfl, rfl⟩ := hp
        have hP : va_P (gD G) vwC (wR G h dg n p fk fp t np no k c f o bt bk bn) H := hP
        have hD : va_D A (wR G h dg n p fk fp t np no k c f o bt bk bn) := hD
        refine W.eq (g2 := F0 mm 41 ls [.int (nI (wdC k9 (i - b))), .int (nI (upN (t i)))]) rfl ?_
        refine yn_icmp_eq (a := upN (t i)) (b := wdC k9 (i - b)) (tgt := 46) hx hb d_R_isWord_41 (by decide) (by omega) (by omega) (fun c41 => ?_) (fun c41 => ?_)
        · skip
          refine lv_iinc (v := nI (i + 1)) (lv' := [(3, .int (nI (i + 1))), (0, .ref (h 0)), (1, .int (nI b)), (2, .ref sa)]) hx hb d_R_isWord_46 hl (k := 3) rfl (y_inc _) (by decide) rfl (fun ls hl => ?_)
          refine lv_goto (tgt := 17) hx hb d_R_isWord_49 (by decide) ?_
          exact ih9 (i + 1) (by omega) (by omega) (by omega) (by omega) (fun j hj => by rcases Nat.lt_or_ge j (i - b) with y | y; exact hq j y; rw [show j = i - b by omega, show b + (i - b) = i by omega]; exact c41) _ _ _ hP hD hS (lv_sub hl [1, 2, 3, 0] (rfl))
        · skip
          refine lv_iconst (v := nI 0) hx hb d_R_isWord_44 (by decide) ?_
          exact yr_z (ws := wR G h dg n p fk fp t np no k c f o bt bk bn) hx hb hrt (rfl) hlocks (⟨congrArg (fun z => some (Value.int z)) (bz_f (by first | (intro y; exact c10 y.1) | exact ⟨hle, fun j hj => hq j (by omega)⟩ | (intro y; have := y.2 (i - b) (by omega); rw [show b + (i - b) = i by omega] at this; exact c41 this))), rfl⟩) rfl hK hP hD hS d_R_isWord_45
  refine lv_aload_n hx hb d_R_isWord_0 rfl (lv_at hl 0 rfl) ?_
  refine va_get (D := gD G) (ci := 1) (v := .int (nI p)) (C := "WordShapes$Reader") (T := TR) (N := 8) hx hb hg iw_R hown hK hP 0 rfl rfl 5 (by decide) (hg _ tk_92) (fun _ h9 => h9) rfl d_R_isWord_1 ?_
  refine lv_iload_n hx hb d_R_isWord_4 rfl (lv_at hl 1 rfl) ?_
  refine lv_isub hx hb d_R_isWord_5 ?_
  refine y_eqi (pk_sub (by omega)) ?_
  refine lv_aload_n hx hb d_R_isWord_6 rfl (lv_at hl 2 rfl) ?_
  refine y_call (y_runV (As := []) (rest := [.int (nI (p - b))]) hx hb hml hown (c_JString_length l G  sa sv k9 (hS1)) (gV (n := 0) hg tk_399 tk_400 tk_401 tk_14 tk_402 (by decide +kernel) ⟨Nat.le_of_ble_eq_true rfl, Nat.le_of_ble_eq_true rfl⟩) (str_recv (hS1 _ _ _ hE) hS) (y_pre hE hK hP hD hS hA [] rfl rfl) rfl rfl hl.1 rfl (lv_room (Nat.le_of_ble_eq_true rfl)) d_R_isWord_7 ⟨Nat.le_of_ble_eq_true rfl, Nat.le_of_ble_eq_true rfl⟩) hP hD hS hA [] rfl (fun _ _ _ _ _ _ hp => False.elim hp) (fun v w H locs hp hlw hP hD hS => ?_)
  obtain ⟨rfl, rfl⟩ := hp
  have hP : va_P (gD G) vwC (wR G h dg n p fk fp t np no k c f o bt bk bn) H := hP
  have hD : va_D A (wR G h dg n p fk fp t np no k c f o bt bk bn) := hD
  refine W.eq (g2 := F0 mm 10 ls [.int (nI ((wdL k9).length)), .int (nI (p - b))]) rfl ?_
  refine yn_icmp_eq (a := p - b) (b := (wdL k9).length) (tgt := 15) hx hb d_R_isWord_10 (by decide) (by omega) (by omega) (fun c10 => ?_) (fun c10 => ?_)
  · skip
    refine lv_iload_n hx hb d_R_isWord_15 rfl (lv_at hl 1 rfl) ?_
    refine lv_istore_n (lv' := [(3, .int (nI b)), (0, .ref (h 0)), (1, .int (nI b)), (2, .ref sa)]) hx hb d_R_isWord_16 rfl hl (by decide) rfl (fun ls hl => ?_)
    exact J17 _ b (Nat.lt_succ_self _) (by omega) (by omega) (by omega) (fun j hj => absurd hj (by omega)) _ _ _ hP hD hS (lv_sub hl [1, 2, 3, 0] (rfl))
  · skip
    refine lv_iconst (v := nI 0) hx hb d_R_isWord_13 (by decide) ?_
    exact yr_z (ws := wR G h dg n p fk fp t np no k c f o bt bk bn) hx hb hrt (rfl) hlocks (⟨congrArg (fun z => some (Value.int z)) (bz_f (by first | (intro y; exact c10 y.1) | exact ⟨hle, fun j hj => hq j (by omega)⟩ | (intro y; have := y.2 (i - b) (by omega); rw [show b + (i - b) = i by omega] at this; exact c41 this))), rfl⟩) rfl hK hP hD hS d_R_isWord_14
set_option maxHeartbeats 4000000 in
set_option maxRecDepth 100000 in
theorem c_R_kindFrom (l : Launch) (G : gl) (h : Nat → Nat) (dg : Nat) (n : Nat) (p : Nat) (fk : Nat) (fp : Nat) (t : Nat → Nat) (np : Nat) (no : Nat) (k : Nat) (c : Nat) (f : Nat → Int32) (o : Nat → Int32) (bt : Nat) (bk : Nat → Int32) (bn : Nat → Int32) (b : Nat) (hn : n ≤ 65536) (hp : p ≤ n) (ht : ∀ i, t i < 256) (hbp : b ≤ p) (hlet : ∀ i, b ≤ i → i < p → leN (t i) = true) : YC l G y_R_kindFrom k_R_kindFrom 3 (Option.some FieldType.int) 5 108 [.ref (h 0), .int (nI b)] (wR G h dg n p fk fp t np no k c f o bt bk bn) (fun v w => v = some (.int (kwI t b p)) ∧ w = wR G h dg n p fk fp t np no k c f o bt bk bn) (fun _ _ => False) := by
  refine yc_of (by decide) ?_
  intro pg ev sx mm bl mt cd A C0 hP hD
  obtain ⟨hx, hb, hrt, hml, hown, hg, hlocks, hxt, hE, hK, hA, hmn⟩ := C0
  have hS : va_S A sx.heap sx.heap [] := va_S.rf
  have hl := lv_entry ([.ref (h 0), .int (nI b)]) (n := 3) (Nat.le_of_ble_eq_true rfl)
  rw [lg_entry_eq]
  generalize (lg_sl ([.ref (h 0), .int (nI b)]) ++ List.replicate (3 - (lg_sl ([.ref (h 0), .int (nI b)])).length) Slot.unset).toArray = ls at hl ⊢
  have hl : lv_has ls 3 [(0, .ref (h 0)), (1, .int (nI b))] := hl
  obtain ⟨H, hH⟩ : ∃ H, H = sx.heap := ⟨_, rfl⟩
  rw [← hH] at hP
  have hS : va_S A sx.heap H [] := by rw [hH]; exact hS
  suffices h9 : W pg l ev (yR 5 108) sx mm _ bl mt cd H [] 0 0 (yMQ bl G A _ _ _ _ sx) (F0 mm 0 ls []) by rw [hH] at h9; exact h9
  obtain ⟨locs, hlo⟩ : ∃ locs : List Loc, locs = [] := ⟨_, rfl⟩
  rw [← hlo] at hS ⊢
  have J2 : ∀ (n9 : Nat) (kd : Nat) (hm9 : 8 - kd < n9) (hk1 : 1 ≤ kd) (hk2 : kd ≤ 8) (hq : kwF t b p = kwA t b p (8 - kd) kd) (H : Heap) (locs : List Loc) (ls : Array Slot), va_P (gD G) vwC (wR G h dg n p fk fp t np no k c f o bt bk bn) H → va_D A (wR G h dg n p fk fp t np no k c f o bt bk bn) → va_S A sx.heap H locs → lv_has ls 3 [(0, .ref (h 0)), (1, .int (nI b)), (2, .int (nI kd))] → W pg l ev (yR 5 108) sx mm ([.ref (h 0), .int (nI b)] : List Value).toArray bl mt cd H locs 0 0 (yMQ bl G A (wR G h dg n p fk fp t np no k c f o bt bk bn).length (fun v w => v = some (.int (kwI t b p)) ∧ w = wR G h dg n p fk fp t np no k c f o bt bk bn) (fun _ _ => False) ([.ref (h 0), .int (nI b)] : List Value).toArray sx) (F0 mm 2 ls []) := by
    intro n9
    induction n9 with
    | zero => intro kd hm9; exact absurd hm9 (Nat.not_lt_zero _)
    | succ n9 ih9 =>
      intro kd hm9 hk1 hk2 hq H locs ls hP hD hS hl
      refine lv_iload_n hx hb d_R_kindFrom_2 rfl (lv_at hl 2 rfl) ?_
      refine lv_bipush (v := nI 7) hx hb d_R_kindFrom_3 (by decide) ?_
      refine yn_icmp_gt (a := kd) (b := 7) (tgt := 28) hx hb d_R_kindFrom_5 (by decide) (by omega) (by omega) (fun c5 => ?_) (fun c5 => ?_)
      · skip
        refine lv_iconst (v := (-1)) hx hb d_R_kindFrom_28 (by decide) ?_
        exact yr_i (ws := wR G h dg n p fk fp t np no k c f o bt bk bn) hx hb hrt hlocks (⟨by unfold kwI; rw [hq, show kd = 8 by omega]; rfl, rfl⟩) rfl hK hP hD hS d_R_kindFrom_29
      · skip
        refine lv_aload_n hx hb d_R_kindFrom_8 rfl (lv_at hl 0 rfl) ?_
        refine lv_iload_n hx hb d_R_kindFrom_9 rfl (lv_at hl 1 rfl) ?_
        refine lv_iload_n hx hb d_R_kindFrom_10 rfl (lv_at hl 2 rfl) ?_
        refine y_call (y_runSN (As := [.int (nI kd)]) (rest := [.int (nI b), .ref (h 0)]) hx hb hml hown (c_W_wordOf l G  kd (by omega) (by omega)) (gSN (n := 1) hg (nw_385 hE.1) tk_386 tk_1 tk_387 (by decide +kernel) ⟨Nat.le_of_ble_eq_true rfl, Nat.le_of_ble_eq_true rfl⟩) (y_pre hE hK hP hD hS hA [] rfl rfl) rfl rfl hl.1 rfl (lv_room (Nat.le_of_ble_eq_true rfl)) d_R_kindFrom_11 ⟨Nat.le_of_ble_eq_true rfl, Nat.le_of_ble_eq_true rfl⟩) hP hD hS hA [] rfl (fun _ _ _ _ _ _ hp => False.elim hp) (fun v w H locs hp hlw hP hD hS => ?_)
        obtain ⟨rfl, rfl⟩ := hp
        have hP : va_P (gD G) vwC (wR G h dg n p fk fp t np no k c f o bt bk bn) H := hP
        have hD : va_D A (wR G h dg n p fk fp t np no k c f o bt bk bn) := hD
        refine W.eq (g2 := F0 mm 14 ls [.ref (gs G (kd + 4)), .int (nI b), .ref (h 0)]) rfl ?_
        refine y_call (y_runV (As := [.int (nI b), .ref (gs G (kd + 4))]) (rest := []) hx hb hml hown (c_R_isWord l G h dg n p fk fp t np no k c f o bt bk bn b (gs G (kd + 4)) (gv G (kd + 4)) kd (by omega) (by omega) (ht) (str_w hk1 (by omega)) (by omega) (hlet)) (gV (n := 2) hg tk_395 tk_397 (gt_s 11 (by decide +kernel) (by decide +kernel)) tk_4 tk_398 (by decide +kernel) ⟨Nat.le_of_ble_eq_true rfl, Nat.le_of_ble_eq_true rfl⟩) (va_recv hK hP (ci := 1) (q0 := 0) rfl rfl) (y_pre hE hK hP hD hS hA [0, 1, 2, 3, 4, 5, 6, 7] rfl rfl) rfl rfl hl.1 rfl (lv_room (Nat.le_of_ble_eq_true rfl)) d_R_kindFrom_14 ⟨Nat.le_of_ble_eq_true rfl, Nat.le_of_ble_eq_true rfl⟩) hP hD hS hA [0, 1, 2, 3, 4, 5, 6, 7] rfl (fun _ _ _ _ _ _ hp => False.elim hp) (fun v w H locs hp hlw hP hD hS => ?_)
        obtain ⟨rfl, rfl⟩ := hp
        have hP : va_P (gD G) vwC (wR G h dg n p fk fp t np no k c f o bt bk bn) H := hP
        have hD : va_D A (wR G h dg n p fk fp t np no k c f o bt bk bn) := hD
        refine W.eq (g2 := F0 mm 17 ls [.int (bz (decide (wmP t b p kd)))]) rfl ?_
        refine yz_if_eq (P := wmP t b p kd) (tgt := 22) hx hb d_R_kindFrom_17 (by decide) (fun c17 => ?_) (fun c17 => ?_)
        · skip
          refine lv_iinc (v := nI (kd + 1)) (lv' := [(2, .int (nI (kd + 1))), (0, .ref (h 0)), (1, .int (nI b))]) hx hb d_R_kindFrom_22 hl (k := 2) rfl (y_inc _) (by decide) rfl (fun ls hl => ?_)
          refine lv_goto (tgt := 2) hx hb d_R_kindFrom_25 (by decide) ?_
          exact ih9 (kd + 1) (by omega) (by omega) (by omega) (hq.trans (kwA_f (by omega) c17)) _ _ _ hP hD hS (lv_sub hl [1, 2, 0] (rfl))
        · skip
          refine lv_iload_n hx hb d_R_kindFrom_20 rfl (lv_at hl 2 rfl) ?_
          exact yr_i (ws := wR G h dg n p fk fp t np no k c f o bt bk bn) hx hb hrt hlocks (⟨by unfold kwI; rw [hq, kwA_t (by omega) c17, if_neg (by omega)], rfl⟩) rfl hK hP hD hS d_R_kindFrom_21
  refine lv_iconst (v := nI 1) hx hb d_R_kindFrom_0 (by decide) ?_
  refine lv_istore_n (lv' := [(2, .int (nI 1)), (0, .ref (h 0)), (1, .int (nI b))]) hx hb d_R_kindFrom_1 rfl hl (by decide) rfl (fun ls hl => ?_)
  exact J2 _ 1 (Nat.lt_succ_self _) (by omega) (by omega) (rfl) _ _ _ hP hD hS (lv_sub hl [1, 2, 0] (rfl))
set_option maxHeartbeats 4000000 in
set_option maxRecDepth 100000 in
theorem c_R_passEmpty {l : Launch} (hlt : l.stackTraces = false) (G : gl) (h : Nat → Nat) (dg : Nat) (n : Nat) (p : Nat) (fk : Nat) (fp : Nat) (t : Nat → Nat) (np : Nat) (no : Nat) (k : Nat) (c : Nat) (f : Nat → Int32) (o : Nat → Int32) (bt : Nat) (bk : Nat → Int32) (bn : Nat → Int32)  (hn : n ≤ 65536) (hp : p ≤ n) (ht : ∀ i, t i < 256) : YC l G y_R_passEmpty k_R_passEmpty 2 (Option.none : Option FieldType) 7 112 [.ref (h 0)] (wR G h dg n p fk fp t np no k c f o bt bk bn) (fun v w => (wmP t p (rn leN t n p) 8) ∧ v = none ∧ w = wR G h dg n (rn leN t n p) fk fp t np no k c f o bt bk bn) (fun E w => (¬ wmP t p (rn leN t n p) 8) ∧ E = "java/lang/IllegalArgumentException" ∧ w = wR G h dg n (rn leN t n p) 2 p t np no k c f o bt bk bn) := by
  refine yc_of (by decide) ?_
  intro pg ev sx mm bl mt cd A C0 hP hD
  obtain ⟨hx, hb, hrt, hml, hown, hg, hlocks, hxt, hE, hK, hA, hmn⟩ := C0
  have hS : va_S A sx.heap sx.heap [] := va_S.rf
  have hl := lv_entry ([.ref (h 0)]) (n := 2) (Nat.le_of_ble_eq_true rfl)
  rw [lg_entry_eq]
  generalize (lg_sl ([.ref (h 0)]) ++ List.replicate (2 - (lg_sl ([.ref (h 0)])).length) Slot.unset).toArray = ls at hl ⊢
  have hl : lv_has ls 2 [(0, .ref (h 0))] := hl
  have hl1 := rn_ge (P := leN) (t := t) (n := n) (p := p) hp
  have hl2 := rn_le (P := leN) (t := t) (n := n) (p := p) hp
  obtain ⟨H, hH⟩ : ∃ H, H = sx.heap := ⟨_, rfl⟩
  rw [← hH] at hP
  have hS : va_S A sx.heap H [] := by rw [hH]; exact hS
  suffices h9 : W pg l ev (yR 7 112) sx mm _ bl mt cd H [] 0 0 (yMQ bl G A _ _ _ _ sx) (F0 mm 0 ls []) by rw [hH] at h9; exact h9
  obtain ⟨locs, hlo⟩ : ∃ locs : List Loc, locs = [] := ⟨_, rfl⟩
  rw [← hlo] at hS ⊢
  refine lv_aload_n hx hb d_R_passEmpty_0 rfl (lv_at hl 0 rfl) ?_
  refine va_get (D := gD G) (ci := 1) (v := .int (nI p)) (C := "WordShapes$Reader") (T := TR) (N := 8) hx hb hg iw_R hown hK hP 0 rfl rfl 5 (by decide) (hg _ tk_92) (fun _ h9 => h9) rfl d_R_passEmpty_1 ?_
  refine lv_istore_n (lv' := [(1, .int (nI p)), (0, .ref (h 0))]) hx hb d_R_passEmpty_4 rfl hl (by decide) rfl (fun ls hl => ?_)
  refine lv_aload_n hx hb d_R_passEmpty_5 rfl (lv_at hl 1 rfl) ?_
  refine y_call (y_runV (As := []) (rest := []) hx hb hml hown (c_R_passLetters l G h dg n p fk fp t np no k c f o bt bk bn  (by omega) (by omega) (ht)) (gV (n := 0) hg tk_377 tk_379 (gt_s 9 (by decide +kernel) (by decide +kernel)) tk_4 tk_380 (by decide +kernel) ⟨Nat.le_of_ble_eq_true rfl, Nat.le_of_ble_eq_true rfl⟩) (va_recv hK hP (ci := 1) (q0 := 0) rfl rfl) (y_pre hE hK hP hD hS hA [0, 1, 2, 3, 4, 5, 6, 7] rfl rfl) rfl rfl hl.1 rfl (lv_room (Nat.le_of_ble_eq_true rfl)) d_R_passEmpty_6 ⟨Nat.le_of_ble_eq_true rfl, Nat.le_of_ble_eq_true rfl⟩) hP hD hS hA [0, 1, 2, 3, 4, 5, 6, 7] rfl (fun _ _ _ _ _ _ hp => False.elim hp) (fun v w H locs hp hlw hP hD hS => ?_)
  obtain ⟨rfl, rfl⟩ := hp
  have hP : va_P (gD G) vwC (wR G h dg n (rn leN t n p) fk fp t np no k c f o bt bk bn) H := hP
  have hD : va_D A (wR G h dg n (rn leN t n p) fk fp t np no k c f o bt bk bn) := hD
  refine W.eq (g2 := F0 mm 9 ls []) rfl ?_
  refine lv_aload_n hx hb d_R_passEmpty_9 rfl (lv_at hl 1 rfl) ?_
  refine lv_iload_n hx hb d_R_passEmpty_10 rfl (lv_at hl 0 rfl) ?_
  refine va_ldcS hx hb hown (sr_467 hE.2.1) d_R_passEmpty_11 ?_
  refine y_call (y_runV (As := [.int (nI p), .ref (gs G 12)]) (rest := []) hx hb hml hown (c_R_isWord l G h dg n (rn leN t n p) fk fp t np no k c f o bt bk bn p (gs G 12) (gv G 12) 8 (by omega) (by omega) (ht) (str_eR) (by omega) (fun i h1 h2 => rn_all h1 h2)) (gV (n := 2) hg tk_395 tk_397 (gt_s 11 (by decide +kernel) (by decide +kernel)) tk_4 tk_398 (by decide +kernel) ⟨Nat.le_of_ble_eq_true rfl, Nat.le_of_ble_eq_true rfl⟩) (va_recv hK hP (ci := 1) (q0 := 0) rfl rfl) (y_pre hE hK hP hD hS hA [0, 1, 2, 3, 4, 5, 6, 7] rfl rfl) rfl rfl hl.1 rfl (lv_room (Nat.le_of_ble_eq_true rfl)) d_R_passEmpty_13 ⟨Nat.le_of_ble_eq_true rfl, Nat.le_of_ble_eq_true rfl⟩) hP hD hS hA [0, 1, 2, 3, 4, 5, 6, 7] rfl (fun _ _ _ _ _ _ hp => False.elim hp) (fun v w H locs hp hlw hP hD hS => ?_)
  obtain ⟨rfl, rfl⟩ := hp
  have hP : va_P (gD G) vwC (wR G h dg n (rn leN t n p) fk fp t np no k c f o bt bk bn) H := hP
  have hD : va_D A (wR G h dg n (rn leN t n p) fk fp t np no k c f o bt bk bn) := hD
  refine W.eq (g2 := F0 mm 16 ls [.int (bz (decide (wmP t p (rn leN t n p) 8)))]) rfl ?_
  refine yz_if_ne (P := wmP t p (rn leN t n p) 8) (tgt := 25) hx hb d_R_passEmpty_16 (by decide) (fun c16 => ?_) (fun c16 => ?_)
  · skip
    exact yr_v (ws := wR G h dg n (rn leN t n p) fk fp t np no k c f o bt bk bn) hx hb hrt hlocks (⟨c16, rfl, rfl⟩) rfl hK hP hD hS d_R_passEmpty_25
  · skip
    refine lv_aload_n hx hb d_R_passEmpty_19 rfl (lv_at hl 1 rfl) ?_
    refine lv_iconst (v := nI 2) hx hb d_R_passEmpty_20 (by decide) ?_
    refine lv_iload_n hx hb d_R_passEmpty_21 rfl (lv_at hl 0 rfl) ?_
    refine y_call (y_runV (As := [.int (nI 2), .int (nI p)]) (rest := []) hx hb hml hown (c_R_fail hlt G h dg n (rn leN t n p) fk fp t np no k c f o bt bk bn 2 p ) (gV (n := 2) hg tk_370 tk_372 (gt_s 8 (by decide +kernel) (by decide +kernel)) tk_4 tk_373 (by decide +kernel) ⟨Nat.le_of_ble_eq_true rfl, Nat.le_of_ble_eq_true rfl⟩) (va_recv hK hP (ci := 1) (q0 := 0) rfl rfl) (y_pre hE hK hP hD hS hA [0, 1, 2, 3, 4, 5, 6, 7] rfl rfl) rfl rfl hl.1 rfl (lv_room (Nat.le_of_ble_eq_true rfl)) d_R_passEmpty_22 ⟨Nat.le_of_ble_eq_true rfl, Nat.le_of_ble_eq_true rfl⟩) hP hD hS hA [0, 1, 2, 3, 4, 5, 6, 7] rfl (fun E w q ce H locs hp hlw hP hD hS hq1 hq2 hq3 => ?_) (fun _ _ _ _ hp => False.elim hp)
    · skip
      obtain ⟨rfl, rfl⟩ := hp
      have hP : va_P (gD G) vwC (wR G h dg n (rn leN t n p) 2 p t np no k c f o bt bk bn) H := hP
      have hD : va_D A (wR G h dg n (rn leN t n p) 2 p t np no k c f o bt bk bn) := hD
      exact y_out (ws := wR G h dg n (rn leN t n p) 2 p t np no k c f o bt bk bn) hxt hlocks hq1 hq2 hq3 (⟨c16, rfl, rfl⟩) rfl hK hP hD hS
set_option maxHeartbeats 4000000 in
set_option maxRecDepth 100000 in
theorem c_R_readKind {l : Launch} (hlt : l.stackTraces = false) (G : gl) (h : Nat → Nat) (dg : Nat) (n : Nat) (p : Nat) (fk : Nat) (fp : Nat) (t : Nat → Nat) (np : Nat) (no : Nat) (k : Nat) (c : Nat) (f : Nat → Int32) (o : Nat → Int32) (bt : Nat) (bk : Nat → Int32) (bn : Nat → Int32)  (hn : n ≤ 65536) (hp : p ≤ n) (ht : ∀ i, t i < 256) (hbt : bt < 54) : YC l G y_R_readKind k_R_readKind 3 (Option.some FieldType.int) 8 134 [.ref (h 0)] (wR G h dg n p fk fp t np no k c f o bt bk bn) (fun v w => (kdR t n p bt = .inr ()) ∧ v = some (.int (nI (kwF t p (rn leN t n p)))) ∧ w = wR G h dg n (rn leN t n p) fk fp t np no k c f o bt bk bn) (fun E w => ∃ a b q, kdR t n p bt = .inl (a, b) ∧ E = "java/lang/IllegalArgumentException" ∧ w = wR G h dg n q a b t np no k c f o bt bk bn) := by
  refine yc_of (by decide) ?_
  intro pg ev sx mm bl mt cd A C0 hP hD
  obtain ⟨hx, hb, hrt, hml, hown, hg, hlocks, hxt, hE, hK, hA, hmn⟩ := C0
  have hS : va_S A sx.heap sx.heap [] := va_S.rf
  have hl := lv_entry ([.ref (h 0)]) (n := 3) (Nat.le_of_ble_eq_true rfl)
  rw [lg_entry_eq]
  generalize (lg_sl ([.ref (h 0)]) ++ List.replicate (3 - (lg_sl ([.ref (h 0)])).length) Slot.unset).toArray = ls at hl ⊢
  have hl : lv_has ls 3 [(0, .ref (h 0))] := hl
  have hl1 := rn_ge (P := leN) (t := t) (n := n) (p := p) hp
  have hl2 := rn_le (P := leN) (t := t) (n := n) (p := p) hp
  have hkw := kwF_le t p (rn leN t n p)
  obtain ⟨H, hH⟩ : ∃ H, H = sx.heap := ⟨_, rfl⟩
  rw [← hH] at hP
  have hS : va_S A sx.heap H [] := by rw [hH]; exact hS
  suffices h9 : W pg l ev (yR 8 134) sx mm _ bl mt cd H [] 0 0 (yMQ bl G A _ _ _ _ sx) (F0 mm 0 ls []) by rw [hH] at h9; exact h9
  obtain ⟨locs, hlo⟩ : ∃ locs : List Loc, locs = [] := ⟨_, rfl⟩
  rw [← hlo] at hS ⊢
  refine lv_aload_n hx hb d_R_readKind_0 rfl (lv_at hl 0 rfl) ?_
  refine va_get (D := gD G) (ci := 1) (v := .int (nI p)) (C := "WordShapes$Reader") (T := TR) (N := 8) hx hb hg iw_R hown hK hP 0 rfl rfl 5 (by decide) (hg _ tk_92) (fun _ h9 => h9) rfl d_R_readKind_1 ?_
  refine lv_istore_n (lv' := [(1, .int (nI p)), (0, .ref (h 0))]) hx hb d_R_readKind_4 rfl hl (by decide) rfl (fun ls hl => ?_)
  refine lv_aload_n hx hb d_R_readKind_5 rfl (lv_at hl 1 rfl) ?_
  refine y_call (y_runV (As := []) (rest := []) hx hb hml hown (c_R_here l G h dg n p fk fp t np no k c f o bt bk bn  (by omega) (by omega) (ht)) (gV (n := 0) hg tk_356 tk_358 (gt_s 6 (by decide +kernel) (by decide +kernel)) tk_4 tk_359 (by decide +kernel) ⟨Nat.le_of_ble_eq_true rfl, Nat.le_of_ble_eq_true rfl⟩) (va_recv hK hP (ci := 1) (q0 := 0) rfl rfl) (y_pre hE hK hP hD hS hA [0, 1, 2, 3, 4, 5, 6, 7] rfl rfl) rfl rfl hl.1 rfl (lv_room (Nat.le_of_ble_eq_true rfl)) d_R_readKind_6 ⟨Nat.le_of_ble_eq_true rfl, Nat.le_of_ble_eq_true rfl⟩) hP hD hS hA [0, 1, 2, 3, 4, 5, 6, 7] rfl (fun _ _ _ _ _ _ hp => False.elim hp) (fun v w H locs hp hlw hP hD hS => ?_)
  obtain ⟨rfl, rfl⟩ := hp
  have hP : va_P (gD G) vwC (wR G h dg n p fk fp t np no k c f o bt bk bn) H := hP
  have hD : va_D A (wR G h dg n p fk fp t np no k c f o bt bk bn) := hD
  refine W.eq (g2 := F0 mm 9 ls [.int (toI (hr t n p))]) rfl ?_
  refine y_call (y_runS (As := [.int (toI (hr t n p))]) (rest := []) hx hb hml hown (c_R_isLetter l G  (toI (hr t n p)) ) (gS (n := 1) hg tk_360 tk_361 tk_4 tk_362 (by decide +kernel) ⟨Nat.le_of_ble_eq_true rfl, Nat.le_of_ble_eq_true rfl⟩) (y_pre hE hK hP hD hS hA [] rfl rfl) rfl rfl hl.1 rfl (lv_room (Nat.le_of_ble_eq_true rfl)) d_R_readKind_9 ⟨Nat.le_of_ble_eq_true rfl, Nat.le_of_ble_eq_true rfl⟩) hP hD hS hA [] rfl (fun _ _ _ _ _ _ hp => False.elim hp) (fun v w H locs hp hlw hP hD hS => ?_)
  obtain ⟨rfl, rfl⟩ := hp
  have hP : va_P (gD G) vwC (wR G h dg n p fk fp t np no k c f o bt bk bn) H := hP
  have hD : va_D A (wR G h dg n p fk fp t np no k c f o bt bk bn) := hD
  refine W.eq (g2 := F0 mm 12 ls [.int (bz (isLe (toI (hr t n p))))]) rfl ?_
  refine yy_if_ne (P := isLe (toI (hr t n p))) (tgt := 19) hx hb d_R_readKind_12 (by decide) (fun c12 => ?_) (fun c12 => ?_)
  · skip
    rw [(ch_h _ (Nat.lt_succ_of_le (hr_le ht _ _))).2.1] at c12
    refine lv_aload_n hx hb d_R_readKind_19 rfl (lv_at hl 1 rfl) ?_
    refine y_call (y_runV (As := []) (rest := []) hx hb hml hown (c_R_passLetters l G h dg n p fk fp t np no k c f o bt bk bn  (by omega) (by omega) (ht)) (gV (n := 0) hg tk_377 tk_379 (gt_s 9 (by decide +kernel) (by decide +kernel)) tk_4 tk_380 (by decide +kernel) ⟨Nat.le_of_ble_eq_true rfl, Nat.le_of_ble_eq_true rfl⟩) (va_recv hK hP (ci := 1) (q0 := 0) rfl rfl) (y_pre hE hK hP hD hS hA [0, 1, 2, 3, 4, 5, 6, 7] rfl rfl) rfl rfl hl.1 rfl (lv_room (Nat.le_of_ble_eq_true rfl)) d_R_readKind_20 ⟨Nat.le_of_ble_eq_true rfl, Nat.le_of_ble_eq_true rfl⟩) hP hD hS hA [0, 1, 2, 3, 4, 5, 6, 7] rfl (fun _ _ _ _ _ _ hp => False.elim hp) (fun v w H locs hp hlw hP hD hS => ?_)
    obtain ⟨rfl, rfl⟩ := hp
    have hP : va_P (gD G) vwC (wR G h dg n (rn leN t n p) fk fp t np no k c f o bt bk bn) H := hP
    have hD : va_D A (wR G h dg n (rn leN t n p) fk fp t np no k c f o bt bk bn) := hD
    refine W.eq (g2 := F0 mm 23 ls []) rfl ?_
    refine lv_aload_n hx hb d_R_readKind_23 rfl (lv_at hl 1 rfl) ?_
    refine lv_iload_n hx hb d_R_readKind_24 rfl (lv_at hl 0 rfl) ?_
    refine y_call (y_runV (As := [.int (nI p)]) (rest := []) hx hb hml hown (c_R_kindFrom l G h dg n (rn leN t n p) fk fp t np no k c f o bt bk bn p (by omega) (by omega) (ht) (by omega) (fun i h1 h2 => rn_all h1 h2)) (gV (n := 1) hg tk_381 tk_383 (gt_s 10 (by decide +kernel) (by decide +kernel)) tk_4 tk_384 (by decide +kernel) ⟨Nat.le_of_ble_eq_true rfl, Nat.le_of_ble_eq_true rfl⟩) (va_recv hK hP (ci := 1) (q0 := 0) rfl rfl) (y_pre hE hK hP hD hS hA [0, 1, 2, 3, 4, 5, 6, 7] rfl rfl) rfl rfl hl.1 rfl (lv_room (Nat.le_of_ble_eq_true rfl)) d_R_readKind_25 ⟨Nat.le_of_ble_eq_true rfl, Nat.le_of_ble_eq_true rfl⟩) hP hD hS hA [0, 1, 2, 3, 4, 5, 6, 7] rfl (fun _ _ _ _ _ _ hp => False.elim hp) (fun v w H locs hp hlw hP hD hS => ?_)
    obtain ⟨rfl, rfl⟩ := hp
    have hP : va_P (gD G) vwC (wR G h dg n (rn leN t n p) fk fp t np no k c f o bt bk bn) H := hP
    have hD : va_D A (wR G h dg n (rn leN t n p) fk fp t np no k c f o bt bk bn) := hD
    refine W.eq (g2 := F0 mm 28 ls [.int (kwI t p (rn leN t n p))]) rfl ?_
    refine lv_istore_n (lv' := [(2, .int (kwI t p (rn leN t n p))), (1, .int (nI p)), (0, .ref (h 0))]) hx hb d_R_readKind_28 rfl hl (by decide) rfl (fun ls hl => ?_)
    refine lv_iload_n hx hb d_R_readKind_29 rfl (lv_at hl 0 rfl) ?_
    refine lv_iconst (v := (-1)) hx hb d_R_readKind_30 (by decide) ?_
    refine lv_icmp_ne (tgt := 40) hx hb d_R_readKind_31 (by decide) (fun c31 => ?_) (fun c31 => ?_)
    · skip
      have hk0 : ¬ kwF t p (rn leN t n p) = 0 := fun y => c31 (by unfold kwI; rw [if_pos y])
      have ek : kwI t p (rn leN t n p) = nI (kwF t p (rn leN t n p)) := if_neg hk0
      rw [ek] at hl
      refine lv_iload_n hx hb d_R_readKind_40 rfl (lv_at hl 0 rfl) ?_
      refine lv_bipush (v := nI 7) hx hb d_R_readKind_41 (by decide) ?_
      refine yn_icmp_ne (a := kwF t p (rn leN t n p)) (b := 7) (tgt := 65) hx hb d_R_readKind_43 (by decide) (by omega) (by omega) (fun c43 => ?_) (fun c43 => ?_)
      · skip
        refine lv_iload_n hx hb d_R_readKind_65 rfl (lv_at hl 0 rfl) ?_
        exact yr_i (ws := wR G h dg n (rn leN t n p) fk fp t np no k c f o bt bk bn) hx hb hrt hlocks (⟨by unfold kdR; rw [if_neg (by rw [c12]; decide), if_neg hk0, if_neg (fun y => by first | exact c43 y.1 | exact absurd y.2 (by omega))], rfl, rfl⟩) rfl hK hP hD hS d_R_readKind_66
      · skip
        refine lv_aload_n hx hb d_R_readKind_46 rfl (lv_at hl 2 rfl) ?_
        refine va_get (D := gD G) (ci := 1) (v := .ref (h 5)) (C := "WordShapes$Reader") (T := TR) (N := 8) hx hb hg iw_R hown hK hP 0 rfl rfl 3 (by decide) (hg _ tk_90) (fun _ h9 => h9) rfl d_R_readKind_47 ?_
        refine va_getN (D := gD G) (ci := 0) (v := .int (nI bt)) (C := "WordShapes$Brackets") (T := TB) (N := 3) hx hb hg iw_B hown hK hP 5 rfl rfl 2 (by decide) (va_Nw.use rfl (nw_77 hE.1)) (fun _ h9 => h9) rfl d_R_readKind_50 ?_
        refine lv_bipush (v := nI 50) hx hb d_R_readKind_53 (by decide) ?_
        refine yn_icmp_lt (a := bt) (b := 50) (tgt := 65) hx hb d_R_readKind_55 (by decide) (by omega) (by omega) (fun c55 => ?_) (fun c55 => ?_)
        · skip
          refine lv_iload_n hx hb d_R_readKind_65 rfl (lv_at hl 0 rfl) ?_
          exact yr_i (ws := wR G h dg n (rn leN t n p) fk fp t np no k c f o bt bk bn) hx hb hrt hlocks (⟨by unfold kdR; rw [if_neg (by rw [c12]; decide), if_neg hk0, if_neg (fun y => by first | exact c43 y.1 | exact absurd y.2 (by omega))], rfl, rfl⟩) rfl hK hP hD hS d_R_readKind_66
        · skip
          refine lv_aload_n hx hb d_R_readKind_58 rfl (lv_at hl 2 rfl) ?_
          refine lv_bipush (v := nI 6) hx hb d_R_readKind_59 (by decide) ?_
          refine lv_iload_n hx hb d_R_readKind_61 rfl (lv_at hl 1 rfl) ?_
          refine y_call (y_runV (As := [.int (nI 6), .int (nI p)]) (rest := []) hx hb hml hown (c_R_fail hlt G h dg n (rn leN t n p) fk fp t np no k c f o bt bk bn 6 p ) (gV (n := 2) hg tk_370 tk_372 (gt_s 8 (by decide +kernel) (by decide +kernel)) tk_4 tk_373 (by decide +kernel) ⟨Nat.le_of_ble_eq_true rfl, Nat.le_of_ble_eq_true rfl⟩) (va_recv hK hP (ci := 1) (q0 := 0) rfl rfl) (y_pre hE hK hP hD hS hA [0, 1, 2, 3, 4, 5, 6, 7] rfl rfl) rfl rfl hl.1 rfl (lv_room (Nat.le_of_ble_eq_true rfl)) d_R_readKind_62 ⟨Nat.le_of_ble_eq_true rfl, Nat.le_of_ble_eq_true rfl⟩) hP hD hS hA [0, 1, 2, 3, 4, 5, 6, 7] rfl (fun E w q ce H locs hp hlw hP hD hS hq1 hq2 hq3 => ?_) (fun _ _ _ _ hp => False.elim hp)
          · skip
            obtain ⟨rfl, rfl⟩ := hp
            have hP : va_P (gD G) vwC (wR G h dg n (rn leN t n p) 6 p t np no k c f o bt bk bn) H := hP
            have hD : va_D A (wR G h dg n (rn leN t n p) 6 p t np no k c f o bt bk bn) := hD
            exact y_out (ws := wR G h dg n (rn leN t n p) 6 p t np no k c f o bt bk bn) hxt hlocks hq1 hq2 hq3 (⟨_, _, _, by unfold kdR; rw [if_neg (by rw [c12]; decide), if_neg hk0, if_pos ⟨c43, c55⟩], rfl, rfl⟩) rfl hK hP hD hS
    · skip
      have hk0 : kwF t p (rn leN t n p) = 0 := Classical.byContradiction fun y => by unfold kwI at c31; rw [if_neg y] at c31; exact absurd c31 (toI_ne (by omega))
      refine lv_aload_n hx hb d_R_readKind_34 rfl (lv_at hl 2 rfl) ?_
      refine lv_iconst (v := nI 2) hx hb d_R_readKind_35 (by decide) ?_
      refine lv_iload_n hx hb d_R_readKind_36 rfl (lv_at hl 1 rfl) ?_
      refine y_call (y_runV (As := [.int (nI 2), .int (nI p)]) (rest := []) hx hb hml hown (c_R_fail hlt G h dg n (rn leN t n p) fk fp t np no k c f o bt bk bn 2 p ) (gV (n := 2) hg tk_370 tk_372 (gt_s 8 (by decide +kernel) (by decide +kernel)) tk_4 tk_373 (by decide +kernel) ⟨Nat.le_of_ble_eq_true rfl, Nat.le_of_ble_eq_true rfl⟩) (va_recv hK hP (ci := 1) (q0 := 0) rfl rfl) (y_pre hE hK hP hD hS hA [0, 1, 2, 3, 4, 5, 6, 7] rfl rfl) rfl rfl hl.1 rfl (lv_room (Nat.le_of_ble_eq_true rfl)) d_R_readKind_37 ⟨Nat.le_of_ble_eq_true rfl, Nat.le_of_ble_eq_true rfl⟩) hP hD hS hA [0, 1, 2, 3, 4, 5, 6, 7] rfl (fun E w q ce H locs hp hlw hP hD hS hq1 hq2 hq3 => ?_) (fun _ _ _ _ hp => False.elim hp)
      · skip
        obtain ⟨rfl, rfl⟩ := hp
        have hP : va_P (gD G) vwC (wR G h dg n (rn leN t n p) 2 p t np no k c f o bt bk bn) H := hP
        have hD : va_D A (wR G h dg n (rn leN t n p) 2 p t np no k c f o bt bk bn) := hD
        exact y_out (ws := wR G h dg n (rn leN t n p) 2 p t np no k c f o bt bk bn) hxt hlocks hq1 hq2 hq3 (⟨_, _, _, by unfold kdR; rw [if_neg (by rw [c12]; decide), if_pos hk0], rfl, rfl⟩) rfl hK hP hD hS
  · skip
    rw [(ch_h _ (Nat.lt_succ_of_le (hr_le ht _ _))).2.1] at c12
    refine lv_aload_n hx hb d_R_readKind_15 rfl (lv_at hl 1 rfl) ?_
    refine y_call (y_runV (As := []) (rest := []) hx hb hml hown (c_R_failHere hlt G h dg n p fk fp t np no k c f o bt bk bn  (by omega) (by omega) (ht)) (gV (n := 0) hg tk_363 tk_365 (gt_s 7 (by decide +kernel) (by decide +kernel)) tk_4 tk_366 (by decide +kernel) ⟨Nat.le_of_ble_eq_true rfl, Nat.le_of_ble_eq_true rfl⟩) (va_recv hK hP (ci := 1) (q0 := 0) rfl rfl) (y_pre hE hK hP hD hS hA [0, 1, 2, 3, 4, 5, 6, 7] rfl rfl) rfl rfl hl.1 rfl (lv_room (Nat.le_of_ble_eq_true rfl)) d_R_readKind_16 ⟨Nat.le_of_ble_eq_true rfl, Nat.le_of_ble_eq_true rfl⟩) hP hD hS hA [0, 1, 2, 3, 4, 5, 6, 7] rfl (fun E w q ce H locs hp hlw hP hD hS hq1 hq2 hq3 => ?_) (fun _ _ _ _ hp => False.elim hp)
    · skip
      obtain ⟨rfl, rfl⟩ := hp
      have hP : va_P (gD G) vwC (wR G h dg n p (uxp (hr t n p)) p t np no k c f o bt bk bn) H := hP
      have hD : va_D A (wR G h dg n p (uxp (hr t n p)) p t np no k c f o bt bk bn) := hD
      exact y_out (ws := wR G h dg n p (uxp (hr t n p)) p t np no k c f o bt bk bn) hxt hlocks hq1 hq2 hq3 (⟨_, _, _, by unfold kdR; rw [if_pos c12], rfl, rfl⟩) rfl hK hP hD hS
