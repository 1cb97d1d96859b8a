/-! reading, step by step -/
def obS (t : Nat → Nat) (n p : Nat) : (Nat × Nat) ⊕ (Bool × Nat) :=
  if leN (hr t n p) = true then (if wmP t p (rn leN t n p) 8 then .inr (false, rn leN t n p) else .inl (2, p))
  else if hr t n p = 40 then .inr (true, p + 1) else .inl (uxp (hr t n p), p)
def ptS (t : Nat → Nat) (n dg no p c : Nat) (o : Nat → Int32) : (Nat × Nat) ⊕ (Nat × (Nat → Int32)) :=
  if 2 * c + 1 < no then
    match numR t n dg p with
    | .inl e => .inl e
    | .inr (q, x) => match numR t n dg (rn blN t n q) with
      | .inl e => .inl e
      | .inr (q2, y) => .inr (q2, upd (upd o (2 * c) x) (2 * c + 1) y)
  else .inl (7, p)
/-- the plan with a kind and a count of 0 behind it -/
def kpF (f : Nat → Int32) (k K : Nat) : Nat → Int32 := upd (upd f k (nI K)) (k + 1) (nI 0)
/-- a part or shape of the kind K whose two numbers are asked for at p -/
def kbS (t : Nat → Nat) (n np p k K : Nat) (f : Nat → Int32) (c : Nat) (o : Nat → Int32) : (Nat × Nat) ⊕ (Bool × Nat × Nat × Nat × (Nat → Int32) × Nat × (Nat → Int32)) :=
  if k + 2 ≤ np then match obS t n p with
    | .inl e => .inl e
    | .inr (b, q) => .inr (b, K, q, k + 2, kpF f k K, c, o)
  else .inl (7, p)
/-- the next item of what is open (its kind K, its count at cn): what is wrong; or whether it opened a bracket, of which kind; the place; plan and points -/
def itS (t : Nat → Nat) (n dg np no bt K : Nat) (cn : Int32) (p k : Nat) (f : Nat → Int32) (c : Nat) (o : Nat → Int32) : (Nat × Nat) ⊕ (Bool × Nat × Nat × Nat × (Nat → Int32) × Nat × (Nat → Int32)) :=
  if K = 0 ∨ K = 7 then
    match kdR t n (rn blN t n p) bt with
    | .inl e => .inl e
    | .inr _ => kbS t n np (rn blN t n (rn leN t n (rn blN t n p))) k (kwF t (rn blN t n p) (rn leN t n (rn blN t n p))) (bmp f k cn) c o
  else if K = 4 then
    if nuN (hr t n (rn blN t n p)) = true then
      if k + 2 ≤ np then match ptS t n dg no (rn blN t n p) c o with
        | .inl e => .inl e
        | .inr (q, o') => .inr (false, 1, q, k + 2, bmp (kpF (bmp f k cn) k 1) (k + 2) (nI (k + 1)), c + 1, o')
      else .inl (7, rn blN t n p)
    else kbS t n np (rn blN t n p) k 1 (bmp f k cn) c o
  else if K = 5 ∨ K = 6 then kbS t n np (rn blN t n p) k (K - 3) (bmp f k cn) c o
  else if K = 3 then
    if k + 1 ≤ np then
      if hr t n (rn blN t n p) = 40 then .inr (true, 8, rn blN t n p + 1, k + 1, upd (bmp f k cn) k (nI 0), c, o) else .inl (uxp (hr t n (rn blN t n p)), rn blN t n p)
    else .inl (7, rn blN t n p)
  else match ptS t n dg no (rn blN t n p) c o with
    | .inl e => .inl e
    | .inr (q, o') => .inr (false, 0, q, k, bmp f k cn, c + 1, o')
/-- behind an item: what is wrong; or whether another follows, the place, how many brackets are open -/
def goS (t : Nat → Nat) (n : Nat) (bk : Nat → Int32) : Nat → Nat → (Nat × Nat) ⊕ (Bool × Nat × Nat)
  | 0, p => .inr (false, p, 0)
  | bt + 1, p => if hr t n (rn blN t n p) = 44 ∧ ¬ bk (bt + 1) = nI 1 then .inr (true, rn blN t n p + 1, bt + 1) else if hr t n (rn blN t n p) = 41 then goS t n bk bt (rn blN t n p + 1) else .inl (uxp (hr t n (rn blN t n p)), rn blN t n p)
def limK (K : Nat) : Nat := if K = 0 then 0 else if K = 7 then 50 else if K = 8 then 53 else if 4 ≤ K then 51 else 52
/-- the brackets that are open -/
def StkI (bt : Nat) (bk : Nat → Int32) : Prop := ∀ i, i ≤ bt → ∃ K, bk i = nI K ∧ K ≤ 8 ∧ i ≤ limK K ∧ (i = 0 → K = 0)
theorem nu_le {c : Nat} (h : nuN c = true) : leN c = false := by
  have := of_decide_eq_true h
  exact decide_eq_false (by omega)
theorem num_bd {t : Nat → Nat} {n dg p q : Nat} {x : Int32} (h : p ≤ n) (hs : numR t n dg p = .inr (q, x)) : p < q ∧ q ≤ n := by
  have h1 := nn (t := t) h
  have h2 := nx5 (t := t) h
  have h4 : ¬ nA t n p = 0 ∧ q = n5 t n p := by
    unfold numR at hs
    split at hs
    · cases hs
    · split at hs
      · cases hs
      · split at hs
        · cases hs
        · next h3 =>
          split at hs
          · cases hs
          · cases hs
            exact ⟨fun q => h3 (Or.inl q), rfl⟩
  obtain ⟨h4, rfl⟩ := h4
  refine ⟨?_, h2.2⟩
  have h5 : n1 t n p < n4 t n p := by
    refine Nat.lt_of_not_le fun q => h4 ?_
    unfold nA
    have : ¬ hr t n (n2 t n p) = 46 := fun z => by
      have z1 : n4 t n p = rn diN t n (n2 t n p + 1) := if_pos z
      have z2 := rn_ge (P := diN) (t := t) (p := n2 t n p + 1) (hr_lt z (by decide))
      omega
    rw [if_neg this]
    omega
  omega
theorem pt_bd {t : Nat → Nat} {n dg no p c q : Nat} {o o' : Nat → Int32} (h : p ≤ n) (hs : ptS t n dg no p c o = .inr (q, o')) : p < q ∧ q ≤ n ∧ 2 * c + 1 < no := by
  unfold ptS at hs
  split at hs
  · next hc =>
    cases h1 : numR t n dg p with
    | inl e => rw [h1] at hs; cases hs
    | inr r =>
      obtain ⟨q1, x⟩ := r
      rw [h1] at hs
      have b1 := num_bd h h1
      have b2 := rn_ge (P := blN) (t := t) b1.2
      have b3 := rn_le (P := blN) (t := t) b1.2
      cases h2 : numR t n dg (rn blN t n q1) with
      | inl e => simp only [h2] at hs; cases hs
      | inr r =>
        obtain ⟨q2, y⟩ := r
        simp only [h2] at hs
        have b4 := num_bd b3 h2
        cases hs
        omega
  · cases hs
theorem ob_bd {t : Nat → Nat} {n p q : Nat} {b : Bool} (h : p ≤ n) (hs : obS t n p = .inr (b, q)) : p < q ∧ q ≤ n := by
  unfold obS at hs
  split at hs
  · next hl =>
    split at hs
    · next hw =>
      cases hs
      have b3 := rn_le (P := leN) (t := t) h
      have := hw.1
      have h5 : (wdL 8).length = 5 := rfl
      omega
    · cases hs
  · split at hs
    · next h4 =>
      cases hs
      have := hr_lt h4 (by decide)
      omega
    · cases hs
theorem kb_bd {t : Nat → Nat} {n np p k K K' q k' c c' : Nat} {f f' o o' : Nat → Int32} {b : Bool} (h : p ≤ n) (hs : kbS t n np p k K f c o = .inr (b, K', q, k', f', c', o')) : p < q ∧ q ≤ n ∧ k' = k + 2 ∧ k + 2 ≤ np ∧ K' = K ∧ c' = c := by
  unfold kbS at hs
  split at hs
  · cases h1 : obS t n p with
    | inl e => rw [h1] at hs; cases hs
    | inr r =>
      obtain ⟨b1, q1⟩ := r
      rw [h1] at hs
      have := ob_bd h h1
      cases hs
      omega
  · cases hs
theorem it_bd {t : Nat → Nat} {n dg np no bt K p k c K' q k' c' : Nat} {cn : Int32} {f f' o o' : Nat → Int32} {b : Bool} (h : p ≤ n) (hk : k ≤ np) (hc : 2 * c ≤ no) (he : 2 ∣ no) (hs : itS t n dg np no bt K cn p k f c o = .inr (b, K', q, k', f', c', o')) : p < q ∧ q ≤ n ∧ k ≤ k' ∧ k' ≤ np ∧ 2 * c' ≤ no ∧ (b = true → 1 ≤ k') := by
  have b1 := rn_ge (P := blN) (t := t) h
  have b2 := rn_le (P := blN) (t := t) h
  unfold itS at hs
  split at hs
  · cases h1 : kdR t n (rn blN t n p) bt with
    | inl e => rw [h1] at hs; cases hs
    | inr r =>
      rw [h1] at hs
      have b3 := rn_ge (P := leN) (t := t) b2
      have b4 := rn_le (P := leN) (t := t) b2
      have b5 := rn_ge (P := blN) (t := t) b4
      have b6 := rn_le (P := blN) (t := t) b4
      have := kb_bd b6 hs
      exact ⟨by omega, by omega, by omega, by omega, by omega, fun _ => by omega⟩
  · split at hs
    · split at hs
      · split at hs
        · cases h1 : ptS t n dg no (rn blN t n p) c o with
          | inl e => rw [h1] at hs; cases hs
          | inr r =>
            obtain ⟨q1, o1⟩ := r
            rw [h1] at hs
            have := pt_bd b2 h1
            cases hs
            exact ⟨by omega, by omega, by omega, by omega, by omega, fun z => by cases z⟩
        · cases hs
      · have := kb_bd b2 hs
        exact ⟨by omega, by omega, by omega, by omega, by omega, fun _ => by omega⟩
    · split at hs
      · have := kb_bd b2 hs
        exact ⟨by omega, by omega, by omega, by omega, by omega, fun _ => by omega⟩
      · split at hs
        · split at hs
          · split at hs
            · next h4 =>
              have := hr_lt h4 (by decide)
              cases hs
              exact ⟨by omega, by omega, by omega, by omega, by omega, fun _ => by omega⟩
            · cases hs
          · cases hs
        · cases h1 : ptS t n dg no (rn blN t n p) c o with
          | inl e => rw [h1] at hs; cases hs
          | inr r =>
            obtain ⟨q1, o1⟩ := r
            rw [h1] at hs
            have := pt_bd b2 h1
            cases hs
            exact ⟨by omega, by omega, by omega, by omega, by omega, fun z => by cases z⟩
theorem go_bd {t : Nat → Nat} {n : Nat} {bk : Nat → Int32} : ∀ (bt p : Nat) {q bt' : Nat} {b : Bool}, p ≤ n → goS t n bk bt p = .inr (b, q, bt') → p ≤ q ∧ q ≤ n ∧ bt' ≤ bt ∧ (b = false → bt' = 0)
  | 0, p, q, bt', b, h, hs => by cases hs; exact ⟨Nat.le_refl _, h, Nat.le_refl _, fun _ => rfl⟩
  | bt + 1, p, q, bt', b, h, hs => by
    have b1 := rn_ge (P := blN) (t := t) h
    have b2 := rn_le (P := blN) (t := t) h
    unfold goS at hs
    split at hs
    · next h4 =>
      have := hr_lt h4.1 (by decide)
      cases hs
      exact ⟨by omega, by omega, by omega, fun z => by cases z⟩
    · split at hs
      · next h4 =>
        have h5 := hr_lt h4 (by decide)
        have := go_bd bt (rn blN t n p + 1) (by omega) hs
        exact ⟨by omega, by omega, by omega, this.2.2.2⟩
      · cases hs

set_option maxHeartbeats 4000000 in
set_option maxRecDepth 100000 in
theorem c_R_keepKind {l : Launch} (hlt : l.stackTraces = false) (G : gl) (h : Nat → Nat) (dg : Nat) (n : Nat) (p : Nat) (fk : Nat) (fp : Nat) (t : Nat → Nat) (np : Nat) (no : Nat) (k : Nat) (c : Nat) (f : Nat → Int32) (o : Nat → Int32) (bt : Nat) (bk : Nat → Int32) (bn : Nat → Int32) (K : Nat) (hn : n ≤ 65536) (hp : p ≤ n) (ht : ∀ i, t i < 256) (hnp : np ≤ 4096) (hnp2 : 2 ≤ np) (hno : no ≤ 8192) (hk : k ≤ np) (hc : 2 * c ≤ no) : YC l G y_R_keepKind k_R_keepKind 2 (Option.none : Option FieldType) 7 112 [.ref (h 0), .int (nI K)] (wR G h dg n p fk fp t np no k c f o bt bk bn) (fun v w => (k + 2 ≤ np) ∧ v = none ∧ w = wR G h dg n p fk fp t np no (k + 2) c (kpF f k K) o bt bk bn) (fun E w => (¬ k + 2 ≤ np) ∧ E = "java/lang/IllegalArgumentException" ∧ w = wR G h dg n p 7 p t np no k c f o bt bk bn) := by
  refine yc_of (by decide) ?_
  intro pg ev sx mm bl mt cd A C0 hP hD
  obtain ⟨hx, hb, hrt, hml, hown, hg, hlocks, hxt, hE, hK, hA, hmn⟩ := C0
  have hS : va_S A sx.heap sx.heap [] := va_S.rf
  have hl := lv_entry ([.ref (h 0), .int (nI K)]) (n := 2) (Nat.le_of_ble_eq_true rfl)
  rw [lg_entry_eq]
  generalize (lg_sl ([.ref (h 0), .int (nI K)]) ++ List.replicate (2 - (lg_sl ([.ref (h 0), .int (nI K)])).length) Slot.unset).toArray = ls at hl ⊢
  have hl : lv_has ls 2 [(0, .ref (h 0)), (1, .int (nI K))] := hl
  obtain ⟨H, hH⟩ : ∃ H, H = sx.heap := ⟨_, rfl⟩
  rw [← hH] at hP
  have hS : va_S A sx.heap H [] := by rw [hH]; exact hS
  suffices h9 : W pg l ev (yR 7 112) sx mm _ bl mt cd H [] 0 0 (yMQ bl G A _ _ _ _ sx) (F0 mm 0 ls []) by rw [hH] at h9; exact h9
  obtain ⟨locs, hlo⟩ : ∃ locs : List Loc, locs = [] := ⟨_, rfl⟩
  rw [← hlo] at hS ⊢
  refine lv_aload_n hx hb d_R_keepKind_0 rfl (lv_at hl 0 rfl) ?_
  refine va_get (D := gD G) (ci := 1) (v := .ref (h 2)) (C := "WordShapes$Reader") (T := TR) (N := 8) hx hb hg iw_R hown hK hP 0 rfl rfl 2 (by decide) (hg _ tk_88) (fun _ h9 => h9) rfl d_R_keepKind_1 ?_
  refine lv_iconst (v := nI 2) hx hb d_R_keepKind_4 (by decide) ?_
  refine y_call (y_runV (As := [.int (nI 2)]) (rest := []) hx hb hml hown (c_S_hasRoomFor l G (fun i => h (i + 2)) np no k c f o 2 (by omega) (by omega) (by omega)) (gV (n := 1) hg tk_451 tk_452 tk_453 tk_3 tk_454 (by decide +kernel) ⟨Nat.le_of_ble_eq_true rfl, Nat.le_of_ble_eq_true rfl⟩) (va_recv hK hP (ci := 2) (q0 := 2) rfl rfl) (y_pre hE hK hP hD hS hA [2, 3, 4] rfl rfl) rfl rfl hl.1 rfl (lv_room (Nat.le_of_ble_eq_true rfl)) d_R_keepKind_5 ⟨Nat.le_of_ble_eq_true rfl, Nat.le_of_ble_eq_true rfl⟩) hP hD hS hA [2, 3, 4] rfl (fun _ _ _ _ _ _ hp => False.elim hp) (fun v w H locs hp hlw hP hD hS => ?_)
  obtain ⟨rfl, rfl⟩ := hp
  have hP : va_P (gD G) vwC (wR G h dg n p fk fp t np no k c f o bt bk bn) H := hP
  have hD : va_D A (wR G h dg n p fk fp t np no k c f o bt bk bn) := hD
  refine W.eq (g2 := F0 mm 8 ls [.int (bz (decide (k ≤ np - 2)))]) rfl ?_
  refine yz_if_ne (P := k ≤ np - 2) (tgt := 21) hx hb d_R_keepKind_8 (by decide) (fun c8 => ?_) (fun c8 => ?_)
  · skip
    refine lv_aload_n hx hb d_R_keepKind_21 rfl (lv_at hl 0 rfl) ?_
    refine va_get (D := gD G) (ci := 1) (v := .ref (h 2)) (C := "WordShapes$Reader") (T := TR) (N := 8) hx hb hg iw_R hown hK hP 0 rfl rfl 2 (by decide) (hg _ tk_88) (fun _ h9 => h9) rfl d_R_keepKind_22 ?_
    refine lv_iload_n hx hb d_R_keepKind_25 rfl (lv_at hl 1 rfl) ?_
    refine y_call (y_runV (As := [.int (nI K)]) (rest := []) hx hb hml hown (c_S_addNumber l G (fun i => h (i + 2)) np no k c f o (nI K) (by omega) (by omega)) (gV (n := 1) hg tk_455 tk_456 tk_457 tk_3 tk_458 (by decide +kernel) ⟨Nat.le_of_ble_eq_true rfl, Nat.le_of_ble_eq_true rfl⟩) (va_recv hK hP (ci := 2) (q0 := 2) rfl rfl) (y_pre hE hK hP hD hS hA [2, 3, 4] rfl rfl) rfl rfl hl.1 rfl (lv_room (Nat.le_of_ble_eq_true rfl)) d_R_keepKind_26 ⟨Nat.le_of_ble_eq_true rfl, Nat.le_of_ble_eq_true rfl⟩) hP hD hS hA [2, 3, 4] rfl (fun _ _ _ _ _ _ hp => False.elim hp) (fun v w H locs hp hlw hP hD hS => ?_)
    obtain ⟨rfl, rfl⟩ := hp
    have hP : va_P (gD G) vwC (wR G h dg n p fk fp t np no (k + 1) c (upd f k (nI K)) o bt bk bn) H := hP
    have hD : va_D A (wR G h dg n p fk fp t np no (k + 1) c (upd f k (nI K)) o bt bk bn) := hD
    refine W.eq (g2 := F0 mm 29 ls []) rfl ?_
    refine lv_aload_n hx hb d_R_keepKind_29 rfl (lv_at hl 0 rfl) ?_
    refine va_get (D := gD G) (ci := 1) (v := .ref (h 2)) (C := "WordShapes$Reader") (T := TR) (N := 8) hx hb hg iw_R hown hK hP 0 rfl rfl 2 (by decide) (hg _ tk_88) (fun _ h9 => h9) rfl d_R_keepKind_30 ?_
    refine lv_iconst (v := nI 0) hx hb d_R_keepKind_33 (by decide) ?_
    refine y_call (y_runV (As := [.int (nI 0)]) (rest := []) hx hb hml hown (c_S_addNumber l G (fun i => h (i + 2)) np no (k + 1) c (upd f k (nI K)) o (nI 0) (by omega) (by omega)) (gV (n := 1) hg tk_455 tk_456 tk_457 tk_3 tk_458 (by decide +kernel) ⟨Nat.le_of_ble_eq_true rfl, Nat.le_of_ble_eq_true rfl⟩) (va_recv hK hP (ci := 2) (q0 := 2) rfl rfl) (y_pre hE hK hP hD hS hA [2, 3, 4] rfl rfl) rfl rfl hl.1 rfl (lv_room (Nat.le_of_ble_eq_true rfl)) d_R_keepKind_34 ⟨Nat.le_of_ble_eq_true rfl, Nat.le_of_ble_eq_true rfl⟩) hP hD hS hA [2, 3, 4] rfl (fun _ _ _ _ _ _ hp => False.elim hp) (fun v w H locs hp hlw hP hD hS => ?_)
    obtain ⟨rfl, rfl⟩ := hp
    have hP : va_P (gD G) vwC (wR G h dg n p fk fp t np no ((k + 1) + 1) c (upd (upd f k (nI K)) (k + 1) (nI 0)) o bt bk bn) H := hP
    have hD : va_D A (wR G h dg n p fk fp t np no ((k + 1) + 1) c (upd (upd f k (nI K)) (k + 1) (nI 0)) o bt bk bn) := hD
    refine W.eq (g2 := F0 mm 37 ls []) rfl ?_
    exact yr_v (ws := wR G h dg n p fk fp t np no ((k + 1) + 1) c (upd (upd f k (nI K)) (k + 1) (nI 0)) o bt bk bn) hx hb hrt hlocks (⟨by omega, rfl, rfl⟩) rfl hK hP hD hS d_R_keepKind_37
  · skip
    refine lv_aload_n hx hb d_R_keepKind_11 rfl (lv_at hl 0 rfl) ?_
    refine lv_bipush (v := nI 7) hx hb d_R_keepKind_12 (by decide) ?_
    refine lv_aload_n hx hb d_R_keepKind_14 rfl (lv_at hl 0 rfl) ?_
    refine va_get (D := gD G) (ci := 1) (v := .int (nI p)) (C := "WordShapes$Reader") (T := TR) (N := 8) hx hb hg iw_R hown hK hP 0 rfl rfl 5 (by decide) (hg _ tk_92) (fun _ h9 => h9) rfl d_R_keepKind_15 ?_
    refine y_call (y_runV (As := [.int (nI 7), .int (nI p)]) (rest := []) hx hb hml hown (c_R_fail hlt G h dg n p fk fp t np no k c f o bt bk bn 7 p ) (gV (n := 2) hg tk_370 tk_372 (gt_s 8 (by decide +kernel) (by decide +kernel)) tk_4 tk_373 (by decide +kernel) ⟨Nat.le_of_ble_eq_true rfl, Nat.le_of_ble_eq_true rfl⟩) (va_recv hK hP (ci := 1) (q0 := 0) rfl rfl) (y_pre hE hK hP hD hS hA [0, 1, 2, 3, 4, 5, 6, 7] rfl rfl) rfl rfl hl.1 rfl (lv_room (Nat.le_of_ble_eq_true rfl)) d_R_keepKind_18 ⟨Nat.le_of_ble_eq_true rfl, Nat.le_of_ble_eq_true rfl⟩) hP hD hS hA [0, 1, 2, 3, 4, 5, 6, 7] rfl (fun E w q ce H locs hp hlw hP hD hS hq1 hq2 hq3 => ?_) (fun _ _ _ _ hp => False.elim hp)
    · skip
      obtain ⟨rfl, rfl⟩ := hp
      have hP : va_P (gD G) vwC (wR G h dg n p 7 p t np no k c f o bt bk bn) H := hP
      have hD : va_D A (wR G h dg n p 7 p t np no k c f o bt bk bn) := hD
      exact y_out (ws := wR G h dg n p 7 p t np no k c f o bt bk bn) hxt hlocks hq1 hq2 hq3 (⟨fun y => c8 (by omega), rfl, rfl⟩) rfl hK hP hD hS
set_option maxHeartbeats 4000000 in
set_option maxRecDepth 100000 in
theorem c_R_opensBracket {l : Launch} (hlt : l.stackTraces = false) (G : gl) (h : Nat → Nat) (dg : Nat) (n : Nat) (p : Nat) (fk : Nat) (fp : Nat) (t : Nat → Nat) (np : Nat) (no : Nat) (k : Nat) (c : Nat) (f : Nat → Int32) (o : Nat → Int32) (bt : Nat) (bk : Nat → Int32) (bn : Nat → Int32) (K : Nat) (hn : n ≤ 65536) (hp : p ≤ n) (ht : ∀ i, t i < 256) (hnp : np ≤ 4096) (hnp2 : 2 ≤ np) (hno : no ≤ 8192) (hk : k ≤ np) (hc : 2 * c ≤ no) (hbt : bt < 53) (hk1 : 1 ≤ k) : YC l G y_R_opensBracket k_R_opensBracket 2 (Option.some FieldType.boolean) 9 155 [.ref (h 0), .int (nI K)] (wR G h dg n p fk fp t np no k c f o bt bk bn) (fun v w => ∃ b9 q9, obS t n p = .inr (b9, q9) ∧ v = some (.int (bz b9)) ∧ w = wR G h dg n q9 fk fp t np no k c f o (cond b9 (bt + 1) bt) (cond b9 (upd bk (bt + 1) (nI K)) bk) (cond b9 (upd bn (bt + 1) (nI (k - 1))) bn)) (fun E w => ∃ a b q, obS t n p = .inl (a, b) ∧ E = "java/lang/IllegalArgumentException" ∧ w = wR G h dg n q a b t np no k c f o bt bk bn) := by
  refine yc_of (by decide) ?_
  intro pg ev sx mm bl mt cd A C0 hP hD
  obtain ⟨hx, hb, hrt, hml, hown, hg, hlocks, hxt, hE, hK, hA, hmn⟩ := C0
  have hS : va_S A sx.heap sx.heap [] := va_S.rf
  have hl := lv_entry ([.ref (h 0), .int (nI K)]) (n := 2) (Nat.le_of_ble_eq_true rfl)
  rw [lg_entry_eq]
  generalize (lg_sl ([.ref (h 0), .int (nI K)]) ++ List.replicate (2 - (lg_sl ([.ref (h 0), .int (nI K)])).length) Slot.unset).toArray = ls at hl ⊢
  have hl : lv_has ls 2 [(0, .ref (h 0)), (1, .int (nI K))] := hl
  obtain ⟨H, hH⟩ : ∃ H, H = sx.heap := ⟨_, rfl⟩
  rw [← hH] at hP
  have hS : va_S A sx.heap H [] := by rw [hH]; exact hS
  suffices h9 : W pg l ev (yR 9 155) sx mm _ bl mt cd H [] 0 0 (yMQ bl G A _ _ _ _ sx) (F0 mm 0 ls []) by rw [hH] at h9; exact h9
  obtain ⟨locs, hlo⟩ : ∃ locs : List Loc, locs = [] := ⟨_, rfl⟩
  rw [← hlo] at hS ⊢
  refine lv_aload_n hx hb d_R_opensBracket_0 rfl (lv_at hl 0 rfl) ?_
  refine y_call (y_runV (As := []) (rest := []) hx hb hml hown (c_R_here l G h dg n p fk fp t np no k c f o bt bk bn  (by omega) (by omega) (ht)) (gV (n := 0) hg tk_356 tk_358 (gt_s 6 (by decide +kernel) (by decide +kernel)) tk_4 tk_359 (by decide +kernel) ⟨Nat.le_of_ble_eq_true rfl, Nat.le_of_ble_eq_true rfl⟩) (va_recv hK hP (ci := 1) (q0 := 0) rfl rfl) (y_pre hE hK hP hD hS hA [0, 1, 2, 3, 4, 5, 6, 7] rfl rfl) rfl rfl hl.1 rfl (lv_room (Nat.le_of_ble_eq_true rfl)) d_R_opensBracket_1 ⟨Nat.le_of_ble_eq_true rfl, Nat.le_of_ble_eq_true rfl⟩) hP hD hS hA [0, 1, 2, 3, 4, 5, 6, 7] rfl (fun _ _ _ _ _ _ hp => False.elim hp) (fun v w H locs hp hlw hP hD hS => ?_)
  obtain ⟨rfl, rfl⟩ := hp
  have hP : va_P (gD G) vwC (wR G h dg n p fk fp t np no k c f o bt bk bn) H := hP
  have hD : va_D A (wR G h dg n p fk fp t np no k c f o bt bk bn) := hD
  refine W.eq (g2 := F0 mm 4 ls [.int (toI (hr t n p))]) rfl ?_
  refine y_call (y_runS (As := [.int (toI (hr t n p))]) (rest := []) hx hb hml hown (c_R_isLetter l G  (toI (hr t n p)) ) (gS (n := 1) hg tk_360 tk_361 tk_4 tk_362 (by decide +kernel) ⟨Nat.le_of_ble_eq_true rfl, Nat.le_of_ble_eq_true rfl⟩) (y_pre hE hK hP hD hS hA [] rfl rfl) rfl rfl hl.1 rfl (lv_room (Nat.le_of_ble_eq_true rfl)) d_R_opensBracket_4 ⟨Nat.le_of_ble_eq_true rfl, Nat.le_of_ble_eq_true rfl⟩) hP hD hS hA [] rfl (fun _ _ _ _ _ _ hp => False.elim hp) (fun v w H locs hp hlw hP hD hS => ?_)
  obtain ⟨rfl, rfl⟩ := hp
  have hP : va_P (gD G) vwC (wR G h dg n p fk fp t np no k c f o bt bk bn) H := hP
  have hD : va_D A (wR G h dg n p fk fp t np no k c f o bt bk bn) := hD
  refine W.eq (g2 := F0 mm 7 ls [.int (bz (isLe (toI (hr t n p))))]) rfl ?_
  refine yy_if_eq (P := isLe (toI (hr t n p))) (tgt := 16) hx hb d_R_opensBracket_7 (by decide) (fun c7 => ?_) (fun c7 => ?_)
  · skip
    rw [(ch_h _ (Nat.lt_succ_of_le (hr_le ht _ _))).2.1] at c7
    refine lv_aload_n hx hb d_R_opensBracket_16 rfl (lv_at hl 0 rfl) ?_
    refine lv_bipush (v := nI 40) hx hb d_R_opensBracket_17 (by decide) ?_
    refine y_call (y_runV (As := [.int (nI 40)]) (rest := []) hx hb hml hown (c_R_pass hlt G h dg n p fk fp t np no k c f o bt bk bn 40 (by omega) (by omega) (ht) (by omega)) (gV (n := 1) hg tk_468 tk_470 (gt_s 15 (by decide +kernel) (by decide +kernel)) tk_4 tk_471 (by decide +kernel) ⟨Nat.le_of_ble_eq_true rfl, Nat.le_of_ble_eq_true rfl⟩) (va_recv hK hP (ci := 1) (q0 := 0) rfl rfl) (y_pre hE hK hP hD hS hA [0, 1, 2, 3, 4, 5, 6, 7] rfl rfl) rfl rfl hl.1 rfl (lv_room (Nat.le_of_ble_eq_true rfl)) d_R_opensBracket_19 ⟨Nat.le_of_ble_eq_true rfl, Nat.le_of_ble_eq_true rfl⟩) hP hD hS hA [0, 1, 2, 3, 4, 5, 6, 7] rfl (fun E w q ce H locs hp hlw hP hD hS hq1 hq2 hq3 => ?_) (fun v w H locs hp hlw hP hD hS => ?_)
    · skip
      obtain ⟨hc_19, rfl, rfl⟩ := hp
      have hP : va_P (gD G) vwC (wR G h dg n p (uxp (hr t n p)) p t np no k c f o bt bk bn) H := hP
      have hD : va_D A (wR G h dg n p (uxp (hr t n p)) p t np no k c f o bt bk bn) := hD
      exact y_out (ws := wR G h dg n p (uxp (hr t n p)) p t np no k c f o bt bk bn) hxt hlocks hq1 hq2 hq3 (⟨_, _, _, by unfold obS; rw [if_neg (by rw [c7]; decide), if_neg hc_19], rfl, rfl⟩) rfl hK hP hD hS
    obtain ⟨hc_19, rfl, rfl⟩ := hp
    have hP : va_P (gD G) vwC (wR G h dg n (p + 1) fk fp t np no k c f o bt bk bn) H := hP
    have hD : va_D A (wR G h dg n (p + 1) fk fp t np no k c f o bt bk bn) := hD
    refine W.eq (g2 := F0 mm 22 ls []) rfl ?_
    have h40 := hr_lt hc_19 (by decide)
    refine lv_aload_n hx hb d_R_opensBracket_22 rfl (lv_at hl 0 rfl) ?_
    refine va_get (D := gD G) (ci := 1) (v := .ref (h 5)) (C := "WordShapes$Reader") (T := TR) (N := 8) hx hb hg iw_R hown hK hP 0 rfl rfl 3 (by decide) (hg _ tk_90) (fun _ h9 => h9) rfl d_R_opensBracket_23 ?_
    refine lv_iload_n hx hb d_R_opensBracket_26 rfl (lv_at hl 1 rfl) ?_
    refine lv_aload_n hx hb d_R_opensBracket_27 rfl (lv_at hl 0 rfl) ?_
    refine va_get (D := gD G) (ci := 1) (v := .ref (h 2)) (C := "WordShapes$Reader") (T := TR) (N := 8) hx hb hg iw_R hown hK hP 0 rfl rfl 2 (by decide) (hg _ tk_88) (fun _ h9 => h9) rfl d_R_opensBracket_28 ?_
    refine va_getN (D := gD G) (ci := 2) (v := .int (nI k)) (C := "WordShapes$Shape") (T := TS) (N := 4) hx hb hg iw_S hown hK hP 2 rfl rfl 2 (by decide) (va_Nw.use rfl (nw_45 hE.1)) (fun _ h9 => h9) rfl d_R_opensBracket_31 ?_
    refine lv_iconst (v := nI 1) hx hb d_R_opensBracket_34 (by decide) ?_
    refine lv_isub hx hb d_R_opensBracket_35 ?_
    refine y_eqi (pk_sub (by omega)) ?_
    refine y_call (y_runV (As := [.int (nI K), .int (nI (k - 1))]) (rest := []) hx hb hml hown (c_B_open l G (fun i => h (i + 5)) bt bk bn (nI K) (nI (k - 1)) (by omega)) (gV (n := 2) hg tk_472 tk_473 tk_474 tk_5 tk_475 (by decide +kernel) ⟨Nat.le_of_ble_eq_true rfl, Nat.le_of_ble_eq_true rfl⟩) (va_recv hK hP (ci := 0) (q0 := 5) rfl rfl) (y_pre hE hK hP hD hS hA [5, 6, 7] rfl rfl) rfl rfl hl.1 rfl (lv_room (Nat.le_of_ble_eq_true rfl)) d_R_opensBracket_36 ⟨Nat.le_of_ble_eq_true rfl, Nat.le_of_ble_eq_true rfl⟩) hP hD hS hA [5, 6, 7] rfl (fun _ _ _ _ _ _ hp => False.elim hp) (fun v w H locs hp hlw hP hD hS => ?_)
    obtain ⟨rfl, rfl⟩ := hp
    have hP : va_P (gD G) vwC (wR G h dg n (p + 1) fk fp t np no k c f o (bt + 1) (upd bk (bt + 1) (nI K)) (upd bn (bt + 1) (nI (k - 1)))) H := hP
    have hD : va_D A (wR G h dg n (p + 1) fk fp t np no k c f o (bt + 1) (upd bk (bt + 1) (nI K)) (upd bn (bt + 1) (nI (k - 1)))) := hD
    refine W.eq (g2 := F0 mm 39 ls []) rfl ?_
    refine lv_iconst (v := nI 1) hx hb d_R_opensBracket_39 (by decide) ?_
    exact yr_z (ws := wR G h dg n (p + 1) fk fp t np no k c f o (bt + 1) (upd bk (bt + 1) (nI K)) (upd bn (bt + 1) (nI (k - 1)))) hx hb hrt (rfl) hlocks (⟨true, _, by unfold obS; rw [if_neg (by rw [c7]; decide), if_pos hc_19], rfl, rfl⟩) rfl hK hP hD hS d_R_opensBracket_40
  · skip
    rw [(ch_h _ (Nat.lt_succ_of_le (hr_le ht _ _))).2.1] at c7
    refine lv_aload_n hx hb d_R_opensBracket_10 rfl (lv_at hl 0 rfl) ?_
    refine y_call (y_runV (As := []) (rest := []) hx hb hml hown (c_R_passEmpty hlt G h dg n p fk fp t np no k c f o bt bk bn  (by omega) (by omega) (ht)) (gV (n := 0) hg tk_463 tk_465 (gt_s 14 (by decide +kernel) (by decide +kernel)) tk_4 tk_466 (by decide +kernel) ⟨Nat.le_of_ble_eq_true rfl, Nat.le_of_ble_eq_true rfl⟩) (va_recv hK hP (ci := 1) (q0 := 0) rfl rfl) (y_pre hE hK hP hD hS hA [0, 1, 2, 3, 4, 5, 6, 7] rfl rfl) rfl rfl hl.1 rfl (lv_room (Nat.le_of_ble_eq_true rfl)) d_R_opensBracket_11 ⟨Nat.le_of_ble_eq_true rfl, Nat.le_of_ble_eq_true rfl⟩) hP hD hS hA [0, 1, 2, 3, 4, 5, 6, 7] rfl (fun E w q ce H locs hp hlw hP hD hS hq1 hq2 hq3 => ?_) (fun v w H locs hp hlw hP hD hS => ?_)
    · skip
      obtain ⟨hc_11, rfl, rfl⟩ := hp
      have hP : va_P (gD G) vwC (wR G h dg n (rn leN t n p) 2 p t np no k c f o bt bk bn) H := hP
      have hD : va_D A (wR G h dg n (rn leN t n p) 2 p t np no k c f o bt bk bn) := hD
      exact y_out (ws := wR G h dg n (rn leN t n p) 2 p t np no k c f o bt bk bn) hxt hlocks hq1 hq2 hq3 (⟨_, _, _, by unfold obS; rw [if_pos c7, if_neg hc_11], rfl, rfl⟩) rfl hK hP hD hS
    obtain ⟨hc_11, rfl, rfl⟩ := hp
    have hP : va_P (gD G) vwC (wR G h dg n (rn leN t n p) fk fp t np no k c f o bt bk bn) H := hP
    have hD : va_D A (wR G h dg n (rn leN t n p) fk fp t np no k c f o bt bk bn) := hD
    refine W.eq (g2 := F0 mm 14 ls []) rfl ?_
    refine lv_iconst (v := nI 0) hx hb d_R_opensBracket_14 (by decide) ?_
    exact yr_z (ws := wR G h dg n (rn leN t n p) fk fp t np no k c f o bt bk bn) hx hb hrt (rfl) hlocks (⟨false, _, by unfold obS; rw [if_pos c7, if_pos hc_11], rfl, rfl⟩) rfl hK hP hD hS d_R_opensBracket_15
set_option maxHeartbeats 4000000 in
set_option maxRecDepth 100000 in
theorem c_R_opensRing {l : Launch} (hlt : l.stackTraces = false) (G : gl) (h : Nat → Nat) (dg : Nat) (n : Nat) (p : Nat) (fk : Nat) (fp : Nat) (t : Nat → Nat) (np : Nat) (no : Nat) (k : Nat) (c : Nat) (f : Nat → Int32) (o : Nat → Int32) (bt : Nat) (bk : Nat → Int32) (bn : Nat → Int32)  (hn : n ≤ 65536) (hp : p ≤ n) (ht : ∀ i, t i < 256) (hnp : np ≤ 4096) (hnp2 : 2 ≤ np) (hno : no ≤ 8192) (hk : k ≤ np) (hc : 2 * c ≤ no) (hbt : bt < 53) : YC l G y_R_opensRing k_R_opensRing 1 (Option.some FieldType.boolean) 9 155 [.ref (h 0)] (wR G h dg n p fk fp t np no k c f o bt bk bn) (fun v w => (k + 1 ≤ np ∧ hr t n p = 40) ∧ v = some (.int (bz true)) ∧ w = wR G h dg n (p + 1) fk fp t np no (k + 1) c (upd f k (nI 0)) o (bt + 1) (upd bk (bt + 1) (nI 8)) (upd bn (bt + 1) (nI k))) (fun E w => ∃ a b, (if k + 1 ≤ np then (if hr t n p = 40 then (.inr () : (Nat × Nat) ⊕ Unit) else .inl (uxp (hr t n p), p)) else .inl (7, p)) = .inl (a, b) ∧ E = "java/lang/IllegalArgumentException" ∧ ∃ q k2 f2 c2 o2, w = wR G h dg n q a b t np no k2 c2 f2 o2 bt bk bn) := by
  refine yc_of (by decide) ?_
  intro pg ev sx mm bl mt cd A C0 hP hD
  obtain ⟨hx, hb, hrt, hml, hown, hg, hlocks, hxt, hE, hK, hA, hmn⟩ := C0
  have hS : va_S A sx.heap sx.heap [] := va_S.rf
  have hl := lv_entry ([.ref (h 0)]) (n := 1) (Nat.le_of_ble_eq_true rfl)
  rw [lg_entry_eq]
  generalize (lg_sl ([.ref (h 0)]) ++ List.replicate (1 - (lg_sl ([.ref (h 0)])).length) Slot.unset).toArray = ls at hl ⊢
  have hl : lv_has ls 1 [(0, .ref (h 0))] := hl
  obtain ⟨H, hH⟩ : ∃ H, H = sx.heap := ⟨_, rfl⟩
  rw [← hH] at hP
  have hS : va_S A sx.heap H [] := by rw [hH]; exact hS
  suffices h9 : W pg l ev (yR 9 155) sx mm _ bl mt cd H [] 0 0 (yMQ bl G A _ _ _ _ sx) (F0 mm 0 ls []) by rw [hH] at h9; exact h9
  obtain ⟨locs, hlo⟩ : ∃ locs : List Loc, locs = [] := ⟨_, rfl⟩
  rw [← hlo] at hS ⊢
  refine lv_aload_n hx hb d_R_opensRing_0 rfl (lv_at hl 0 rfl) ?_
  refine va_get (D := gD G) (ci := 1) (v := .ref (h 2)) (C := "WordShapes$Reader") (T := TR) (N := 8) hx hb hg iw_R hown hK hP 0 rfl rfl 2 (by decide) (hg _ tk_88) (fun _ h9 => h9) rfl d_R_opensRing_1 ?_
  refine lv_iconst (v := nI 1) hx hb d_R_opensRing_4 (by decide) ?_
  refine y_call (y_runV (As := [.int (nI 1)]) (rest := []) hx hb hml hown (c_S_hasRoomFor l G (fun i => h (i + 2)) np no k c f o 1 (by omega) (by omega) (by omega)) (gV (n := 1) hg tk_451 tk_452 tk_453 tk_3 tk_454 (by decide +kernel) ⟨Nat.le_of_ble_eq_true rfl, Nat.le_of_ble_eq_true rfl⟩) (va_recv hK hP (ci := 2) (q0 := 2) rfl rfl) (y_pre hE hK hP hD hS hA [2, 3, 4] rfl rfl) rfl rfl hl.1 rfl (lv_room (Nat.le_of_ble_eq_true rfl)) d_R_opensRing_5 ⟨Nat.le_of_ble_eq_true rfl, Nat.le_of_ble_eq_true rfl⟩) hP hD hS hA [2, 3, 4] rfl (fun _ _ _ _ _ _ hp => False.elim hp) (fun v w H locs hp hlw hP hD hS => ?_)
  obtain ⟨rfl, rfl⟩ := hp
  have hP : va_P (gD G) vwC (wR G h dg n p fk fp t np no k c f o bt bk bn) H := hP
  have hD : va_D A (wR G h dg n p fk fp t np no k c f o bt bk bn) := hD
  refine W.eq (g2 := F0 mm 8 ls [.int (bz (decide (k ≤ np - 1)))]) rfl ?_
  refine yz_if_ne (P := k ≤ np - 1) (tgt := 21) hx hb d_R_opensRing_8 (by decide) (fun c8 => ?_) (fun c8 => ?_)
  · skip
    refine lv_aload_n hx hb d_R_opensRing_21 rfl (lv_at hl 0 rfl) ?_
    refine va_get (D := gD G) (ci := 1) (v := .ref (h 2)) (C := "WordShapes$Reader") (T := TR) (N := 8) hx hb hg iw_R hown hK hP 0 rfl rfl 2 (by decide) (hg _ tk_88) (fun _ h9 => h9) rfl d_R_opensRing_22 ?_
    refine lv_iconst (v := nI 0) hx hb d_R_opensRing_25 (by decide) ?_
    refine y_call (y_runV (As := [.int (nI 0)]) (rest := []) hx hb hml hown (c_S_addNumber l G (fun i => h (i + 2)) np no k c f o (nI 0) (by omega) (by omega)) (gV (n := 1) hg tk_455 tk_456 tk_457 tk_3 tk_458 (by decide +kernel) ⟨Nat.le_of_ble_eq_true rfl, Nat.le_of_ble_eq_true rfl⟩) (va_recv hK hP (ci := 2) (q0 := 2) rfl rfl) (y_pre hE hK hP hD hS hA [2, 3, 4] rfl rfl) rfl rfl hl.1 rfl (lv_room (Nat.le_of_ble_eq_true rfl)) d_R_opensRing_26 ⟨Nat.le_of_ble_eq_true rfl, Nat.le_of_ble_eq_true rfl⟩) hP hD hS hA [2, 3, 4] rfl (fun _ _ _ _ _ _ hp => False.elim hp) (fun v w H locs hp hlw hP hD hS => ?_)
    obtain ⟨rfl, rfl⟩ := hp
    have hP : va_P (gD G) vwC (wR G h dg n p fk fp t np no (k + 1) c (upd f k (nI 0)) o bt bk bn) H := hP
    have hD : va_D A (wR G h dg n p fk fp t np no (k + 1) c (upd f k (nI 0)) o bt bk bn) := hD
    refine W.eq (g2 := F0 mm 29 ls []) rfl ?_
    refine lv_aload_n hx hb d_R_opensRing_29 rfl (lv_at hl 0 rfl) ?_
    refine lv_bipush (v := nI 40) hx hb d_R_opensRing_30 (by decide) ?_
    refine y_call (y_runV (As := [.int (nI 40)]) (rest := []) hx hb hml hown (c_R_pass hlt G h dg n p fk fp t np no (k + 1) c (upd f k (nI 0)) o bt bk bn 40 (by omega) (by omega) (ht) (by omega)) (gV (n := 1) hg tk_468 tk_470 (gt_s 15 (by decide +kernel) (by decide +kernel)) tk_4 tk_471 (by decide +kernel) ⟨Nat.le_of_ble_eq_true rfl, Nat.le_of_ble_eq_true rfl⟩) (va_recv hK hP (ci := 1) (q0 := 0) rfl rfl) (y_pre hE hK hP hD hS hA [0, 1, 2, 3, 4, 5, 6, 7] rfl rfl) rfl rfl hl.1 rfl (lv_room (Nat.le_of_ble_eq_true rfl)) d_R_opensRing_32 ⟨Nat.le_of_ble_eq_true rfl, Nat.le_of_ble_eq_true rfl⟩) hP hD hS hA [0, 1, 2, 3, 4, 5, 6, 7] rfl (fun E w q ce H locs hp hlw hP hD hS hq1 hq2 hq3 => ?_) (fun v w H locs hp hlw hP hD hS => ?_)
    · skip
      obtain ⟨hc_32, rfl, rfl⟩ := hp
      have hP : va_P (gD G) vwC (wR G h dg n p (uxp (hr t n p)) p t np no (k + 1) c (upd f k (nI 0)) o bt bk bn) H := hP
      have hD : va_D A (wR G h dg n p (uxp (hr t n p)) p t np no (k + 1) c (upd f k (nI 0)) o bt bk bn) := hD
      exact y_out (ws := wR G h dg n p (uxp (hr t n p)) p t np no (k + 1) c (upd f k (nI 0)) o bt bk bn) hxt hlocks hq1 hq2 hq3 (⟨_, _, by rw [if_pos (by omega), if_neg hc_32], rfl, _, _, _, _, _, rfl⟩) rfl hK hP hD hS
    obtain ⟨hc_32, rfl, rfl⟩ := hp
    have hP : va_P (gD G) vwC (wR G h dg n (p + 1) fk fp t np no (k + 1) c (upd f k (nI 0)) o bt bk bn) H := hP
    have hD : va_D A (wR G h dg n (p + 1) fk fp t np no (k + 1) c (upd f k (nI 0)) o bt bk bn) := hD
    refine W.eq (g2 := F0 mm 35 ls []) rfl ?_
    refine lv_aload_n hx hb d_R_opensRing_35 rfl (lv_at hl 0 rfl) ?_
    refine va_get (D := gD G) (ci := 1) (v := .ref (h 5)) (C := "WordShapes$Reader") (T := TR) (N := 8) hx hb hg iw_R hown hK hP 0 rfl rfl 3 (by decide) (hg _ tk_90) (fun _ h9 => h9) rfl d_R_opensRing_36 ?_
    refine lv_bipush (v := nI 8) hx hb d_R_opensRing_39 (by decide) ?_
    refine lv_aload_n hx hb d_R_opensRing_41 rfl (lv_at hl 0 rfl) ?_
    refine va_get (D := gD G) (ci := 1) (v := .ref (h 2)) (C := "WordShapes$Reader") (T := TR) (N := 8) hx hb hg iw_R hown hK hP 0 rfl rfl 2 (by decide) (hg _ tk_88) (fun _ h9 => h9) rfl d_R_opensRing_42 ?_
    refine va_getN (D := gD G) (ci := 2) (v := .int (nI (k + 1))) (C := "WordShapes$Shape") (T := TS) (N := 4) hx hb hg iw_S hown hK hP 2 rfl rfl 2 (by decide) (va_Nw.use rfl (nw_45 hE.1)) (fun _ h9 => h9) rfl d_R_opensRing_45 ?_
    refine lv_iconst (v := nI 1) hx hb d_R_opensRing_48 (by decide) ?_
    refine lv_isub hx hb d_R_opensRing_49 ?_
    refine y_eqi (y := nI k) (pk_sub (by omega)) ?_
    refine y_call (y_runV (As := [.int (nI 8), .int (nI k)]) (rest := []) hx hb hml hown (c_B_open l G (fun i => h (i + 5)) bt bk bn (nI 8) (nI k) (by omega)) (gV (n := 2) hg tk_472 tk_473 tk_474 tk_5 tk_475 (by decide +kernel) ⟨Nat.le_of_ble_eq_true rfl, Nat.le_of_ble_eq_true rfl⟩) (va_recv hK hP (ci := 0) (q0 := 5) rfl rfl) (y_pre hE hK hP hD hS hA [5, 6, 7] rfl rfl) rfl rfl hl.1 rfl (lv_room (Nat.le_of_ble_eq_true rfl)) d_R_opensRing_50 ⟨Nat.le_of_ble_eq_true rfl, Nat.le_of_ble_eq_true rfl⟩) hP hD hS hA [5, 6, 7] rfl (fun _ _ _ _ _ _ hp => False.elim hp) (fun v w H locs hp hlw hP hD hS => ?_)
    obtain ⟨rfl, rfl⟩ := hp
    have hP : va_P (gD G) vwC (wR G h dg n (p + 1) fk fp t np no (k + 1) c (upd f k (nI 0)) o (bt + 1) (upd bk (bt + 1) (nI 8)) (upd bn (bt + 1) (nI k))) H := hP
    have hD : va_D A (wR G h dg n (p + 1) fk fp t np no (k + 1) c (upd f k (nI 0)) o (bt + 1) (upd bk (bt + 1) (nI 8)) (upd bn (bt + 1) (nI k))) := hD
    refine W.eq (g2 := F0 mm 53 ls []) rfl ?_
    refine lv_iconst (v := nI 1) hx hb d_R_opensRing_53 (by decide) ?_
    exact yr_z (ws := wR G h dg n (p + 1) fk fp t np no (k + 1) c (upd f k (nI 0)) o (bt + 1) (upd bk (bt + 1) (nI 8)) (upd bn (bt + 1) (nI k))) hx hb hrt (rfl) hlocks (⟨⟨by omega, hc_32⟩, rfl, rfl⟩) rfl hK hP hD hS d_R_opensRing_54
  · skip
    refine lv_aload_n hx hb d_R_opensRing_11 rfl (lv_at hl 0 rfl) ?_
    refine lv_bipush (v := nI 7) hx hb d_R_opensRing_12 (by decide) ?_
    refine lv_aload_n hx hb d_R_opensRing_14 rfl (lv_at hl 0 rfl) ?_
    refine va_get (D := gD G) (ci := 1) (v := .int (nI p)) (C := "WordShapes$Reader") (T := TR) (N := 8) hx hb hg iw_R hown hK hP 0 rfl rfl 5 (by decide) (hg _ tk_92) (fun _ h9 => h9) rfl d_R_opensRing_15 ?_
    refine y_call (y_runV (As := [.int (nI 7), .int (nI p)]) (rest := []) hx hb hml hown (c_R_fail hlt G h dg n p fk fp t np no k c f o bt bk bn 7 p ) (gV (n := 2) hg tk_370 tk_372 (gt_s 8 (by decide +kernel) (by decide +kernel)) tk_4 tk_373 (by decide +kernel) ⟨Nat.le_of_ble_eq_true rfl, Nat.le_of_ble_eq_true rfl⟩) (va_recv hK hP (ci := 1) (q0 := 0) rfl rfl) (y_pre hE hK hP hD hS hA [0, 1, 2, 3, 4, 5, 6, 7] rfl rfl) rfl rfl hl.1 rfl (lv_room (Nat.le_of_ble_eq_true rfl)) d_R_opensRing_18 ⟨Nat.le_of_ble_eq_true rfl, Nat.le_of_ble_eq_true rfl⟩) hP hD hS hA [0, 1, 2, 3, 4, 5, 6, 7] rfl (fun E w q ce H locs hp hlw hP hD hS hq1 hq2 hq3 => ?_) (fun _ _ _ _ hp => False.elim hp)
    · skip
      obtain ⟨rfl, rfl⟩ := hp
      have hP : va_P (gD G) vwC (wR G h dg n p 7 p t np no k c f o bt bk bn) H := hP
      have hD : va_D A (wR G h dg n p 7 p t np no k c f o bt bk bn) := hD
      exact y_out (ws := wR G h dg n p 7 p t np no k c f o bt bk bn) hxt hlocks hq1 hq2 hq3 (⟨_, _, by rw [if_neg (by omega)], rfl, _, _, _, _, _, rfl⟩) rfl hK hP hD hS
set_option maxHeartbeats 4000000 in
set_option maxRecDepth 100000 in
theorem c_R_readPoint {l : Launch} (hlt : l.stackTraces = false) (G : gl) (h : Nat → Nat) (dg : Nat) (n : Nat) (p : Nat) (fk : Nat) (fp : Nat) (t : Nat → Nat) (np : Nat) (no : Nat) (k : Nat) (c : Nat) (f : Nat → Int32) (o : Nat → Int32) (bt : Nat) (bk : Nat → Int32) (bn : Nat → Int32)  (hn : n ≤ 65536) (hp : p ≤ n) (ht : ∀ i, t i < 256) (hnp : np ≤ 4096) (hnp2 : 2 ≤ np) (hno : no ≤ 8192) (hk : k ≤ np) (hc : 2 * c ≤ no) : YC l G y_R_readPoint k_R_readPoint 3 (Option.none : Option FieldType) 9 165 [.ref (h 0)] (wR G h dg n p fk fp t np no k c f o bt bk bn) (fun v w => ∃ q9 o9, ptS t n dg no p c o = .inr (q9, o9) ∧ v = none ∧ w = wR G h dg n q9 fk fp t np no k (c + 1) f o9 bt bk bn) (fun E w => ∃ a b, ptS t n dg no p c o = .inl (a, b) ∧ E = "java/lang/IllegalArgumentException" ∧ ∃ q k2 f2 c2 o2, w = wR G h dg n q a b t np no k2 c2 f2 o2 bt bk bn) := by
  refine yc_of (by decide) ?_
  intro pg ev sx mm bl mt cd A C0 hP hD
  obtain ⟨hx, hb, hrt, hml, hown, hg, hlocks, hxt, hE, hK, hA, hmn⟩ := C0
  have hS : va_S A sx.heap sx.heap [] := va_S.rf
  have hl := lv_entry ([.ref (h 0)]) (n := 3) (Nat.le_of_ble_eq_true rfl)
  rw [lg_entry_eq]
  generalize (lg_sl ([.ref (h 0)]) ++ List.replicate (3 - (lg_sl ([.ref (h 0)])).length) Slot.unset).toArray = ls at hl ⊢
  have hl : lv_has ls 3 [(0, .ref (h 0))] := hl
  obtain ⟨H, hH⟩ : ∃ H, H = sx.heap := ⟨_, rfl⟩
  rw [← hH] at hP
  have hS : va_S A sx.heap H [] := by rw [hH]; exact hS
  suffices h9 : W pg l ev (yR 9 165) sx mm _ bl mt cd H [] 0 0 (yMQ bl G A _ _ _ _ sx) (F0 mm 0 ls []) by rw [hH] at h9; exact h9
  obtain ⟨locs, hlo⟩ : ∃ locs : List Loc, locs = [] := ⟨_, rfl⟩
  rw [← hlo] at hS ⊢
  refine lv_aload_n hx hb d_R_readPoint_0 rfl (lv_at hl 0 rfl) ?_
  refine va_get (D := gD G) (ci := 1) (v := .ref (h 2)) (C := "WordShapes$Reader") (T := TR) (N := 8) hx hb hg iw_R hown hK hP 0 rfl rfl 2 (by decide) (hg _ tk_88) (fun _ h9 => h9) rfl d_R_readPoint_1 ?_
  refine y_call (y_runV (As := []) (rest := []) hx hb hml hown (c_S_hasRoomForPoint l G (fun i => h (i + 2)) np no k c f o  (by omega) (by omega)) (gV (n := 0) hg tk_480 tk_481 tk_482 tk_3 tk_483 (by decide +kernel) ⟨Nat.le_of_ble_eq_true rfl, Nat.le_of_ble_eq_true rfl⟩) (va_recv hK hP (ci := 2) (q0 := 2) rfl rfl) (y_pre hE hK hP hD hS hA [2, 3, 4] rfl rfl) rfl rfl hl.1 rfl (lv_room (Nat.le_of_ble_eq_true rfl)) d_R_readPoint_4 ⟨Nat.le_of_ble_eq_true rfl, Nat.le_of_ble_eq_true rfl⟩) hP hD hS hA [2, 3, 4] rfl (fun _ _ _ _ _ _ hp => False.elim hp) (fun v w H locs hp hlw hP hD hS => ?_)
  obtain ⟨rfl, rfl⟩ := hp
  have hP : va_P (gD G) vwC (wR G h dg n p fk fp t np no k c f o bt bk bn) H := hP
  have hD : va_D A (wR G h dg n p fk fp t np no k c f o bt bk bn) := hD
  refine W.eq (g2 := F0 mm 7 ls [.int (bz (decide (2 * c + 1 < no)))]) rfl ?_
  refine yz_if_ne (P := 2 * c + 1 < no) (tgt := 20) hx hb d_R_readPoint_7 (by decide) (fun c7 => ?_) (fun c7 => ?_)
  · skip
    refine lv_aload_n hx hb d_R_readPoint_20 rfl (lv_at hl 0 rfl) ?_
    refine y_call (y_runV (As := []) (rest := []) hx hb hml hown (c_R_readNumber hlt G h dg n p fk fp t np no k c f o bt bk bn  (by omega) (by omega) (ht)) (gV (n := 0) hg tk_484 tk_486 (gt_s 17 (by decide +kernel) (by decide +kernel)) tk_4 tk_487 (by decide +kernel) ⟨Nat.le_of_ble_eq_true rfl, Nat.le_of_ble_eq_true rfl⟩) (va_recv hK hP (ci := 1) (q0 := 0) rfl rfl) (y_pre hE hK hP hD hS hA [0, 1, 2, 3, 4, 5, 6, 7] rfl rfl) rfl rfl hl.1 rfl (lv_room (Nat.le_of_ble_eq_true rfl)) d_R_readPoint_21 ⟨Nat.le_of_ble_eq_true rfl, Nat.le_of_ble_eq_true rfl⟩) hP hD hS hA [0, 1, 2, 3, 4, 5, 6, 7] rfl (fun E w q ce H locs hp hlw hP hD hS hq1 hq2 hq3 => ?_) (fun v w H locs hp hlw hP hD hS => ?_)
    · skip
      obtain ⟨a_21, b_21, q_21, hs_21, rfl, rfl⟩ := hp
      have hP : va_P (gD G) vwC (wR G h dg n q_21 a_21 b_21 t np no k c f o bt bk bn) H := hP
      have hD : va_D A (wR G h dg n q_21 a_21 b_21 t np no k c f o bt bk bn) := hD
      exact y_out (ws := wR G h dg n q_21 a_21 b_21 t np no k c f o bt bk bn) hxt hlocks hq1 hq2 hq3 (⟨_, _, by unfold ptS; rw [if_pos c7, hs_21], rfl, _, _, _, _, _, rfl⟩) rfl hK hP hD hS
    obtain ⟨q_21, x_21, hs_21, rfl, rfl⟩ := hp
    have hP : va_P (gD G) vwC (wR G h dg n q_21 fk fp t np no k c f o bt bk bn) H := hP
    have hD : va_D A (wR G h dg n q_21 fk fp t np no k c f o bt bk bn) := hD
    refine W.eq (g2 := F0 mm 24 ls [.int x_21]) rfl ?_
    have hb21 := num_bd hp hs_21
    refine lv_istore_n (lv' := [(1, .int x_21), (0, .ref (h 0))]) hx hb d_R_readPoint_24 rfl hl (by decide) rfl (fun ls hl => ?_)
    refine lv_aload_n hx hb d_R_readPoint_25 rfl (lv_at hl 1 rfl) ?_
    refine y_call (y_runV (As := []) (rest := []) hx hb hml hown (c_R_skipBlanks l G h dg n q_21 fk fp t np no k c f o bt bk bn  (by omega) (by omega) (ht)) (gV (n := 0) hg tk_333 tk_335 (gt_s 4 (by decide +kernel) (by decide +kernel)) tk_4 tk_336 (by decide +kernel) ⟨Nat.le_of_ble_eq_true rfl, Nat.le_of_ble_eq_true rfl⟩) (va_recv hK hP (ci := 1) (q0 := 0) rfl rfl) (y_pre hE hK hP hD hS hA [0, 1, 2, 3, 4, 5, 6, 7] rfl rfl) rfl rfl hl.1 rfl (lv_room (Nat.le_of_ble_eq_true rfl)) d_R_readPoint_26 ⟨Nat.le_of_ble_eq_true rfl, Nat.le_of_ble_eq_true rfl⟩) hP hD hS hA [0, 1, 2, 3, 4, 5, 6, 7] rfl (fun _ _ _ _ _ _ hp => False.elim hp) (fun v w H locs hp hlw hP hD hS => ?_)
    obtain ⟨rfl, rfl⟩ := hp
    have hP : va_P (gD G) vwC (wR G h dg n (rn blN t n q_21) fk fp t np no k c f o bt bk bn) H := hP
    have hD : va_D A (wR G h dg n (rn blN t n q_21) fk fp t np no k c f o bt bk bn) := hD
    refine W.eq (g2 := F0 mm 29 ls []) rfl ?_
    have hr1 := rn_ge (P := blN) (t := t) (n := n) (p := q_21) hb21.2
    have hr2 := rn_le (P := blN) (t := t) (n := n) (p := q_21) hb21.2
    refine lv_aload_n hx hb d_R_readPoint_29 rfl (lv_at hl 1 rfl) ?_
    refine y_call (y_runV (As := []) (rest := []) hx hb hml hown (c_R_readNumber hlt G h dg n (rn blN t n q_21) fk fp t np no k c f o bt bk bn  (by omega) (by omega) (ht)) (gV (n := 0) hg tk_484 tk_486 (gt_s 17 (by decide +kernel) (by decide +kernel)) tk_4 tk_487 (by decide +kernel) ⟨Nat.le_of_ble_eq_true rfl, Nat.le_of_ble_eq_true rfl⟩) (va_recv hK hP (ci := 1) (q0 := 0) rfl rfl) (y_pre hE hK hP hD hS hA [0, 1, 2, 3, 4, 5, 6, 7] rfl rfl) rfl rfl hl.1 rfl (lv_room (Nat.le_of_ble_eq_true rfl)) d_R_readPoint_30 ⟨Nat.le_of_ble_eq_true rfl, Nat.le_of_ble_eq_true rfl⟩) hP hD hS hA [0, 1, 2, 3, 4, 5, 6, 7] rfl (fun E w q ce H locs hp hlw hP hD hS hq1 hq2 hq3 => ?_) (fun v w H locs hp hlw hP hD hS => ?_)
    · skip
      obtain ⟨a_30, b_30, q_30, hs_30, rfl, rfl⟩ := hp
      have hP : va_P (gD G) vwC (wR G h dg n q_30 a_30 b_30 t np no k c f o bt bk bn) H := hP
      have hD : va_D A (wR G h dg n q_30 a_30 b_30 t np no k c f o bt bk bn) := hD
      exact y_out (ws := wR G h dg n q_30 a_30 b_30 t np no k c f o bt bk bn) hxt hlocks hq1 hq2 hq3 (⟨_, _, by unfold ptS; rw [if_pos c7, hs_21]; show (match numR t n dg (rn blN t n q_21) with | .inl e => _ | .inr (q2, y) => _) = _; rw [hs_30], rfl, _, _, _, _, _, rfl⟩) rfl hK hP hD hS
    obtain ⟨q_30, x_30, hs_30, rfl, rfl⟩ := hp
    have hP : va_P (gD G) vwC (wR G h dg n q_30 fk fp t np no k c f o bt bk bn) H := hP
    have hD : va_D A (wR G h dg n q_30 fk fp t np no k c f o bt bk bn) := hD
    refine W.eq (g2 := F0 mm 33 ls [.int x_30]) rfl ?_
    have hb30 := num_bd hr2 hs_30
    refine lv_istore_n (lv' := [(2, .int x_30), (1, .int x_21), (0, .ref (h 0))]) hx hb d_R_readPoint_33 rfl hl (by decide) rfl (fun ls hl => ?_)
    refine lv_aload_n hx hb d_R_readPoint_34 rfl (lv_at hl 2 rfl) ?_
    refine va_get (D := gD G) (ci := 1) (v := .ref (h 2)) (C := "WordShapes$Reader") (T := TR) (N := 8) hx hb hg iw_R hown hK hP 0 rfl rfl 2 (by decide) (hg _ tk_88) (fun _ h9 => h9) rfl d_R_readPoint_35 ?_
    refine lv_iload_n hx hb d_R_readPoint_38 rfl (lv_at hl 1 rfl) ?_
    refine lv_iload_n hx hb d_R_readPoint_39 rfl (lv_at hl 0 rfl) ?_
    refine y_call (y_runV (As := [.int x_21, .int x_30]) (rest := []) hx hb hml hown (c_S_addPoint l G (fun i => h (i + 2)) np no k c f o x_21 x_30 (by omega) (by omega)) (gV (n := 2) hg tk_513 tk_514 tk_515 tk_3 tk_516 (by decide +kernel) ⟨Nat.le_of_ble_eq_true rfl, Nat.le_of_ble_eq_true rfl⟩) (va_recv hK hP (ci := 2) (q0 := 2) rfl rfl) (y_pre hE hK hP hD hS hA [2, 3, 4] rfl rfl) rfl rfl hl.1 rfl (lv_room (Nat.le_of_ble_eq_true rfl)) d_R_readPoint_40 ⟨Nat.le_of_ble_eq_true rfl, Nat.le_of_ble_eq_true rfl⟩) hP hD hS hA [2, 3, 4] rfl (fun _ _ _ _ _ _ hp => False.elim hp) (fun v w H locs hp hlw hP hD hS => ?_)
    obtain ⟨rfl, rfl⟩ := hp
    have hP : va_P (gD G) vwC (wR G h dg n q_30 fk fp t np no k (c + 1) f (upd (upd o (2 * c) x_21) (2 * c + 1) x_30) bt bk bn) H := hP
    have hD : va_D A (wR G h dg n q_30 fk fp t np no k (c + 1) f (upd (upd o (2 * c) x_21) (2 * c + 1) x_30) bt bk bn) := hD
    refine W.eq (g2 := F0 mm 43 ls []) rfl ?_
    exact yr_v (ws := wR G h dg n q_30 fk fp t np no k (c + 1) f (upd (upd o (2 * c) x_21) (2 * c + 1) x_30) bt bk bn) hx hb hrt hlocks (⟨_, _, by unfold ptS; rw [if_pos c7, hs_21]; show (match numR t n dg (rn blN t n q_21) with | .inl e => _ | .inr (q2, y) => _) = _; rw [hs_30], rfl, rfl⟩) rfl hK hP hD hS d_R_readPoint_43
  · skip
    refine lv_aload_n hx hb d_R_readPoint_10 rfl (lv_at hl 0 rfl) ?_
    refine lv_bipush (v := nI 7) hx hb d_R_readPoint_11 (by decide) ?_
    refine lv_aload_n hx hb d_R_readPoint_13 rfl (lv_at hl 0 rfl) ?_
    refine va_get (D := gD G) (ci := 1) (v := .int (nI p)) (C := "WordShapes$Reader") (T := TR) (N := 8) hx hb hg iw_R hown hK hP 0 rfl rfl 5 (by decide) (hg _ tk_92) (fun _ h9 => h9) rfl d_R_readPoint_14 ?_
    refine y_call (y_runV (As := [.int (nI 7), .int (nI p)]) (rest := []) hx hb hml hown (c_R_fail hlt G h dg n p fk fp t np no k c f o bt bk bn 7 p ) (gV (n := 2) hg tk_370 tk_372 (gt_s 8 (by decide +kernel) (by decide +kernel)) tk_4 tk_373 (by decide +kernel) ⟨Nat.le_of_ble_eq_true rfl, Nat.le_of_ble_eq_true rfl⟩) (va_recv hK hP (ci := 1) (q0 := 0) rfl rfl) (y_pre hE hK hP hD hS hA [0, 1, 2, 3, 4, 5, 6, 7] rfl rfl) rfl rfl hl.1 rfl (lv_room (Nat.le_of_ble_eq_true rfl)) d_R_readPoint_17 ⟨Nat.le_of_ble_eq_true rfl, Nat.le_of_ble_eq_true rfl⟩) hP hD hS hA [0, 1, 2, 3, 4, 5, 6, 7] rfl (fun E w q ce H locs hp hlw hP hD hS hq1 hq2 hq3 => ?_) (fun _ _ _ _ hp => False.elim hp)
    · skip
      obtain ⟨rfl, rfl⟩ := hp
      have hP : va_P (gD G) vwC (wR G h dg n p 7 p t np no k c f o bt bk bn) H := hP
      have hD : va_D A (wR G h dg n p 7 p t np no k c f o bt bk bn) := hD
      exact y_out (ws := wR G h dg n p 7 p t np no k c f o bt bk bn) hxt hlocks hq1 hq2 hq3 (⟨_, _, by unfold ptS; rw [if_neg c7], rfl, _, _, _, _, _, rfl⟩) rfl hK hP hD hS
