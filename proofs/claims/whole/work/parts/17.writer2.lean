/-! writing, step by step -/
def nmX (dg : Nat) (x : Int32) : List Nat := sgT x ++ nmL dg x.toInt.natAbs
def ptT (dg : Nat) (o : Nat → Int32) (y : Nat) : List Nat := nmX dg (o (2 * y)) ++ ([32] ++ nmX dg (o (2 * y + 1)))
theorem abs_or {x : Int32} (h : x.toInt.natAbs ≤ 1000000000) : x = nI x.toInt.natAbs ∨ (x = -nI x.toInt.natAbs ∧ 0 < x.toInt.natAbs) := by
  rcases Int.lt_or_le x.toInt 0 with q | q
  · refine Or.inr ⟨?_, by omega⟩
    apply Int32.toInt_inj.mp
    rw [sb_negT (by omega)]
    omega
  · refine Or.inl ?_
    apply Int32.toInt_inj.mp
    rw [nI_toInt (by omega)]
    omega
theorem nmX_len (dg : Nat) (x : Int32) : (nmX dg x).length ≤ 25 := by
  unfold nmX
  rw [List.length_append]
  have := nmL_len dg x.toInt.natAbs
  have : (sgT x).length ≤ 1 := by unfold sgT; split <;> decide
  omega
abbrev wSt : Type := List Nat × Nat × Nat × Bool × Nat × (Nat → Int32) × (Nat → Int32)
def preT (fi : Bool) : List Nat := cond fi [] [44, 32]
def bdW (kd x : Int32) (ou : List Nat) (nx py bt : Nat) (bk bn : Nat → Int32) : wSt := (ou ++ (if x = 0 then wdL 8 else [40]), nx, py, decide (¬ x = 0), (if x = 0 then bt else bt + 1), (if x = 0 then bk else upd bk (bt + 1) kd), (if x = 0 then bn else upd bn (bt + 1) x))
/-- the next item of what is open -/
def wIt (dg K : Nat) (f o : Nat → Int32) (fi : Bool) (ou : List Nat) (nx py bt : Nat) (bk bn : Nat → Int32) : wSt :=
  if K = 0 ∨ K = 7 then bdW (f nx) (f (nx + 1)) (ou ++ preT fi ++ wdL (f nx).toNatClampNeg ++ [32]) (nx + 2) py bt bk (upd bn bt (bn bt - 1))
  else if K = 4 ∨ K = 5 ∨ K = 6 then bdW (f nx) (f (nx + 1)) (ou ++ preT fi) (nx + 2) py bt bk (upd bn bt (bn bt - 1))
  else if K = 3 then bdW (nI 8) (f nx) (ou ++ preT fi) (nx + 1) py bt bk (upd bn bt (bn bt - 1))
  else (ou ++ preT fi ++ ptT dg o py, nx, py + 1, false, bt, bk, upd bn bt (bn bt - 1))
/-- it can be laid -/
def wIo (K k : Nat) (f : Nat → Int32) (c : Nat) (o : Nat → Int32) (nx py bt : Nat) : Prop :=
  K ≤ 8 ∧ bt < 54 ∧ (K = 0 ∨ K = 7 → nx + 2 ≤ k ∧ bt < 53 ∧ ∃ kd, 1 ≤ kd ∧ kd ≤ 7 ∧ f nx = nI kd) ∧ (K = 4 ∨ K = 5 ∨ K = 6 → nx + 2 ≤ k ∧ bt < 53) ∧ (K = 3 → nx + 1 ≤ k ∧ bt < 53) ∧ (K = 1 ∨ K = 2 ∨ K = 8 → py < c ∧ (o (2 * py)).toInt.natAbs ≤ 1000000000 ∧ (o (2 * py + 1)).toInt.natAbs ≤ 1000000000)
theorem wIt_c {dg K : Nat} {f o : Nat → Int32} {fi : Bool} {ou : List Nat} {nx py bt kd : Nat} {bk bn : Nat → Int32} (h : K = 0 ∨ K = 7) (hk : f nx = nI kd) (hk7 : kd ≤ 7) : wIt dg K f o fi ou nx py bt bk bn = bdW (nI kd) (f (nx + 1)) (ou ++ preT fi ++ wdL kd ++ [32]) (nx + 2) py bt bk (upd bn bt (bn bt - 1)) := by
  unfold wIt
  rw [if_pos h, hk, nI_clamp (by omega)]
theorem wIt_m {dg K : Nat} {f o : Nat → Int32} {fi : Bool} {ou : List Nat} {nx py bt : Nat} {bk bn : Nat → Int32} (h : K = 4 ∨ K = 5 ∨ K = 6) : wIt dg K f o fi ou nx py bt bk bn = bdW (f nx) (f (nx + 1)) (ou ++ preT fi) (nx + 2) py bt bk (upd bn bt (bn bt - 1)) := by
  unfold wIt
  rw [if_neg (by omega), if_pos h]
theorem wIt_3 {dg : Nat} {f o : Nat → Int32} {fi : Bool} {ou : List Nat} {nx py bt : Nat} {bk bn : Nat → Int32} : wIt dg 3 f o fi ou nx py bt bk bn = bdW (nI 8) (f nx) (ou ++ preT fi) (nx + 1) py bt bk (upd bn bt (bn bt - 1)) := by
  unfold wIt
  rw [if_neg (by decide), if_neg (by decide), if_pos rfl]
theorem wIt_d {dg K : Nat} {f o : Nat → Int32} {fi : Bool} {ou : List Nat} {nx py bt : Nat} {bk bn : Nat → Int32} (h : K = 1 ∨ K = 2 ∨ K = 8) : wIt dg K f o fi ou nx py bt bk bn = (ou ++ preT fi ++ ptT dg o py, nx, py + 1, false, bt, bk, upd bn bt (bn bt - 1)) := by
  unfold wIt
  rw [if_neg (by omega), if_neg (by omega), if_neg (by omega)]
/-- a turn: an item, or the bracket that ends -/
def wSp (dg : Nat) (f o : Nat → Int32) (σ : wSt) : wSt := if 0 < σ.2.2.2.2.2.2 σ.2.2.2.2.1 then wIt dg (σ.2.2.2.2.2.1 σ.2.2.2.2.1).toNatClampNeg f o σ.2.2.2.1 σ.1 σ.2.1 σ.2.2.1 σ.2.2.2.2.1 σ.2.2.2.2.2.1 σ.2.2.2.2.2.2 else (σ.1 ++ [41], σ.2.1, σ.2.2.1, σ.2.2.2.1, σ.2.2.2.2.1 - 1, σ.2.2.2.2.2.1, σ.2.2.2.2.2.2)
def wDn (σ : wSt) : Prop := σ.2.2.2.2.1 = 0 ∧ ¬ 0 < σ.2.2.2.2.2.2 0
/-- a turn can be made -/
def wGd (k : Nat) (f : Nat → Int32) (c : Nat) (o : Nat → Int32) (σ : wSt) : Prop := σ.2.2.2.2.1 < 54 ∧ (0 < σ.2.2.2.2.2.2 σ.2.2.2.2.1 → ∃ K, σ.2.2.2.2.2.1 σ.2.2.2.2.1 = nI K ∧ wIo K k f c o σ.2.1 σ.2.2.1 σ.2.2.2.2.1)
/-- in at most m turns it comes to its end, which is τ -/
def wRn (dg k : Nat) (f : Nat → Int32) (c : Nat) (o : Nat → Int32) : Nat → wSt → wSt → Prop
  | 0, σ, τ => wDn σ ∧ τ = σ
  | m + 1, σ, τ => (wDn σ ∧ τ = σ) ∨ (¬ wDn σ ∧ wGd k f c o σ ∧ wRn dg k f c o m (wSp dg f o σ) τ)
theorem wRn_dn {dg k c m : Nat} {f o : Nat → Int32} {σ τ : wSt} (h : wRn dg k f c o m σ τ) (hd : wDn σ) : τ = σ := by
  cases m with
  | zero => exact h.2
  | succ m =>
    rcases h with h | h
    · exact h.2
    · exact absurd hd h.1
theorem wRn_go {dg k c m : Nat} {f o : Nat → Int32} {σ τ : wSt} (h : wRn dg k f c o m σ τ) (hd : ¬ wDn σ) : ∃ m', m = m' + 1 ∧ wGd k f c o σ ∧ wRn dg k f c o m' (wSp dg f o σ) τ := by
  cases m with
  | zero => exact absurd h.1 hd
  | succ m =>
    rcases h with h | h
    · exact absurd h.1 hd
    · exact ⟨m, rfl, h.2.1, h.2.2⟩
theorem dec_if (x : Int32) : decide (¬ x = 0) = (if x = 0 then false else true) := by by_cases h : x = 0 <;> simp [h]
abbrev wTS (G : gl) (h : Nat → Nat) (dg ln : Nat) (ks : Bool) (nx py : Nat) (fi : Bool) (by0 : Nat → Int32) (ou : List Nat) (de : Nat → Int32) (bt : Nat) (bk bn : Nat → Int32) (u : Nat → Nat) (np no k c : Nat) (f o : Nat → Int32) : va_W := [(h 0, .inr (3, [.ref (h 1), .int (nI dg), .ref (h 2), .ref (h 3), .int (nI ln), .int (bz ks), .int (nI ou.length), .int (nI nx), .int (nI py), .int (bz fi)])), (h 1, .inl (gc G 1, 131072, .inl (wrF ks by0 ou))), (h 2, .inl (gc G 0, 12, .inl de)), (h 3, .inr (0, [.ref (h 4), .ref (h 5), .int (nI bt)])), (h 4, .inl (gc G 0, 54, .inl bk)), (h 5, .inl (gc G 0, 54, .inl bn)), (u 0, .inr (2, [.ref (u 1), .ref (u 2), .int (nI k), .int (nI c)])), (u 1, .inl (gc G 0, np, .inl f)), (u 2, .inl (gc G 0, no, .inl o))]

set_option maxHeartbeats 4000000 in
set_option maxRecDepth 100000 in
theorem c_T_takeNumber (l : Launch) (G : gl) (h : Nat → Nat) (dg : Nat) (ln : Nat) (ks : Bool) (nx : Nat) (py : Nat) (fi : Bool) (by0 : Nat → Int32) (ou : List Nat) (de : Nat → Int32) (bt : Nat) (bk : Nat → Int32) (bn : Nat → Int32) (u : Nat → Nat) (np : Nat) (no : Nat) (k : Nat) (c : Nat) (f : Nat → Int32) (o : Nat → Int32)  (hk : k ≤ np) (hnp : np ≤ 4096) (hc : 2 * c ≤ no) (hno : no ≤ 8192) (hnx : nx < k) : YC l G y_T_takeNumber k_T_takeNumber 3 (Option.some FieldType.int) 1 21 [.ref (h 0), .ref (u 0)] (wTS G h dg ln ks nx py fi by0 ou de bt bk bn u np no k c f o) (fun v w => v = some (.int (f nx)) ∧ w = wTS G h dg ln ks (nx + 1) py fi by0 ou de bt bk bn u np no k c f o) (fun _ _ => False) := by
  refine yc_of (by decide) ?_
  intro pg ev sx mm bl mt cd A C0 hP hD
  obtain ⟨hx, hb, hrt, hml, hown, hg, hlocks, hxt, hE, hK, hA, hmn⟩ := C0
  have hS : va_S A sx.heap sx.heap [] := va_S.rf
  have hl := lv_entry ([.ref (h 0), .ref (u 0)]) (n := 3) (Nat.le_of_ble_eq_true rfl)
  rw [lg_entry_eq]
  generalize (lg_sl ([.ref (h 0), .ref (u 0)]) ++ List.replicate (3 - (lg_sl ([.ref (h 0), .ref (u 0)])).length) Slot.unset).toArray = ls at hl ⊢
  have hl : lv_has ls 3 [(0, .ref (h 0)), (1, .ref (u 0))] := hl
  obtain ⟨H, hH⟩ : ∃ H, H = sx.heap := ⟨_, rfl⟩
  rw [← hH] at hP
  have hS : va_S A sx.heap H [] := by rw [hH]; exact hS
  suffices h9 : W pg l ev (yR 1 21) sx mm _ bl mt cd H [] 0 0 (yMQ bl G A _ _ _ _ sx) (F0 mm 0 ls []) by rw [hH] at h9; exact h9
  obtain ⟨locs, hlo⟩ : ∃ locs : List Loc, locs = [] := ⟨_, rfl⟩
  rw [← hlo] at hS ⊢
  refine lv_aload_n hx hb d_T_takeNumber_0 rfl (lv_at hl 1 rfl) ?_
  refine lv_aload_n hx hb d_T_takeNumber_1 rfl (lv_at hl 0 rfl) ?_
  refine va_get (D := gD G) (ci := 3) (v := .int (nI nx)) (C := "WordShapes$Writer") (T := TT) (N := 10) hx hb hg iw_T hown hK hP 0 rfl rfl 7 (by decide) (hg _ tk_131) (fun _ h9 => h9) rfl d_T_takeNumber_2 ?_
  refine y_call (y_runV (As := [.int (nI nx)]) (rest := []) hx hb hml hown (c_S_numberAt l G u np no k c f o nx (by omega) (by omega) (by omega)) (gV (n := 1) hg tk_581 tk_538 tk_539 tk_3 tk_540 (by decide +kernel) ⟨Nat.le_of_ble_eq_true rfl, Nat.le_of_ble_eq_true rfl⟩) (va_recv hK hP (ci := 2) (q0 := 6) rfl rfl) (y_pre hE hK hP hD hS hA [6, 7, 8] rfl rfl) rfl rfl hl.1 rfl (lv_room (Nat.le_of_ble_eq_true rfl)) d_T_takeNumber_5 ⟨Nat.le_of_ble_eq_true rfl, Nat.le_of_ble_eq_true rfl⟩) hP hD hS hA [6, 7, 8] rfl (fun _ _ _ _ _ _ hp => False.elim hp) (fun v9 w9 H locs hp hlw hP hD hS => ?_)
  obtain ⟨rfl, rfl⟩ := hp
  have hP : va_P (gD G) vwC (wTS G h dg ln ks nx py fi by0 ou de bt bk bn u np no k c f o) H := hP
  have hD : va_D A (wTS G h dg ln ks nx py fi by0 ou de bt bk bn u np no k c f o) := hD
  refine W.eq (g2 := F0 mm 8 ls [.int (if nx < k then f nx else 0)]) rfl ?_
  refine y_eqi (y := f nx) (if_pos hnx) ?_
  refine lv_istore_n (lv' := [(2, .int (f nx)), (0, .ref (h 0)), (1, .ref (u 0))]) hx hb d_T_takeNumber_8 rfl hl (by decide) rfl (fun ls hl => ?_)
  refine lv_aload_n hx hb d_T_takeNumber_9 rfl (lv_at hl 1 rfl) ?_
  refine lv_dup hx hb d_T_takeNumber_10 rfl ?_
  refine va_get (D := gD G) (ci := 3) (v := .int (nI nx)) (C := "WordShapes$Writer") (T := TT) (N := 10) hx hb hg iw_T hown hK hP 0 rfl rfl 7 (by decide) (hg _ tk_131) (fun _ h9 => h9) rfl d_T_takeNumber_11 ?_
  refine lv_iconst (v := nI 1) hx hb d_T_takeNumber_14 (by decide) ?_
  refine lv_iadd hx hb d_T_takeNumber_15 ?_
  refine y_eqi (nI_add _ _) ?_
  refine va_put (D := gD G) (ci := 3) (v := .int (nI (nx + 1))) (ty := .int) (C := "WordShapes$Writer") (T := TT) (N := 10) hx hb hg iw_T ft_T fo_T nm_T hown hK hP hD hS 0 rfl rfl 7 (by decide) (hg _ tk_131) (fun _ h9 => h9) rfl (by decide +kernel) (rfl) (rfl) (Nat.le_of_ble_eq_true rfl) d_T_takeNumber_16 (fun H locs hP hD hS => ?_)
  have hP : va_P (gD G) vwC (wTS G h dg ln ks (nx + 1) py fi by0 ou de bt bk bn u np no k c f o) H := hP
  have hD : va_D A (wTS G h dg ln ks (nx + 1) py fi by0 ou de bt bk bn u np no k c f o) := hD
  refine lv_iload_n hx hb d_T_takeNumber_19 rfl (lv_at hl 0 rfl) ?_
  exact yr_i (ws := wTS G h dg ln ks (nx + 1) py fi by0 ou de bt bk bn u np no k c f o) hx hb hrt hlocks (⟨rfl, rfl⟩) rfl hK hP hD hS d_T_takeNumber_20
set_option maxHeartbeats 4000000 in
set_option maxRecDepth 100000 in
theorem c_T_layPoint (l : Launch) (G : gl) (h : Nat → Nat) (dg : Nat) (ln : Nat) (ks : Bool) (nx : Nat) (py : Nat) (fi : Bool) (by0 : Nat → Int32) (ou : List Nat) (de : Nat → Int32) (bt : Nat) (bk : Nat → Int32) (bn : Nat → Int32) (u : Nat → Nat) (np : Nat) (no : Nat) (k : Nat) (c : Nat) (f : Nat → Int32) (o : Nat → Int32)  (hk : k ≤ np) (hnp : np ≤ 4096) (hc : 2 * c ≤ no) (hno : no ≤ 8192) (hou : ou.length + 60 < 2 ^ 30) (hdg : dg ≤ 3) (hpy : py < c) (hx1 : (o (2 * py)).toInt.natAbs ≤ 1000000000) (hx2 : (o (2 * py + 1)).toInt.natAbs ≤ 1000000000) : YC l G y_T_layPoint k_T_layPoint 2 (Option.none : Option FieldType) 2 46 [.ref (h 0), .ref (u 0)] (wTS G h dg ln ks nx py fi by0 ou de bt bk bn u np no k c f o) (fun v w => ∃ de9, v = none ∧ w = wTS G h dg ln ks nx (py + 1) fi by0 (ou ++ ptT dg o py) de9 bt bk bn u np no k c f o) (fun _ _ => False) := by
  refine yc_of (by decide) ?_
  intro pg ev sx mm bl mt cd A C0 hP hD
  obtain ⟨hx, hb, hrt, hml, hown, hg, hlocks, hxt, hE, hK, hA, hmn⟩ := C0
  have hS : va_S A sx.heap sx.heap [] := va_S.rf
  have hl := lv_entry ([.ref (h 0), .ref (u 0)]) (n := 2) (Nat.le_of_ble_eq_true rfl)
  rw [lg_entry_eq]
  generalize (lg_sl ([.ref (h 0), .ref (u 0)]) ++ List.replicate (2 - (lg_sl ([.ref (h 0), .ref (u 0)])).length) Slot.unset).toArray = ls at hl ⊢
  have hl : lv_has ls 2 [(0, .ref (h 0)), (1, .ref (u 0))] := hl
  have hl1 := nmX_len dg (o (2 * py))
  have hl2 := nmX_len dg (o (2 * py + 1))
  obtain ⟨H, hH⟩ : ∃ H, H = sx.heap := ⟨_, rfl⟩
  rw [← hH] at hP
  have hS : va_S A sx.heap H [] := by rw [hH]; exact hS
  suffices h9 : W pg l ev (yR 2 46) sx mm _ bl mt cd H [] 0 0 (yMQ bl G A _ _ _ _ sx) (F0 mm 0 ls []) by rw [hH] at h9; exact h9
  obtain ⟨locs, hlo⟩ : ∃ locs : List Loc, locs = [] := ⟨_, rfl⟩
  rw [← hlo] at hS ⊢
  refine lv_aload_n hx hb d_T_layPoint_0 rfl (lv_at hl 0 rfl) ?_
  refine lv_aload_n hx hb d_T_layPoint_1 rfl (lv_at hl 1 rfl) ?_
  refine lv_aload_n hx hb d_T_layPoint_2 rfl (lv_at hl 0 rfl) ?_
  refine va_get (D := gD G) (ci := 3) (v := .int (nI py)) (C := "WordShapes$Writer") (T := TT) (N := 10) hx hb hg iw_T hown hK hP 0 rfl rfl 8 (by decide) (hg _ tk_132) (fun _ h9 => h9) rfl d_T_layPoint_3 ?_
  refine lv_iconst (v := nI 0) hx hb d_T_layPoint_6 (by decide) ?_
  refine y_call (y_runV (As := [.int (nI py), .int (nI 0)]) (rest := [.ref (h 0)]) hx hb hml hown (c_S_ordinateAt l G u np no k c f o py 0 (by omega) (by omega) (by omega) (by omega)) (gV (n := 2) hg tk_603 tk_604 tk_605 tk_3 tk_606 (by decide +kernel) ⟨Nat.le_of_ble_eq_true rfl, Nat.le_of_ble_eq_true rfl⟩) (va_recv hK hP (ci := 2) (q0 := 6) rfl rfl) (y_pre hE hK hP hD hS hA [6, 7, 8] rfl rfl) rfl rfl hl.1 rfl (lv_room (Nat.le_of_ble_eq_true rfl)) d_T_layPoint_7 ⟨Nat.le_of_ble_eq_true rfl, Nat.le_of_ble_eq_true rfl⟩) hP hD hS hA [6, 7, 8] rfl (fun _ _ _ _ _ _ hp => False.elim hp) (fun v9 w9 H locs hp hlw hP hD hS => ?_)
  obtain ⟨rfl, rfl⟩ := hp
  have hP : va_P (gD G) vwC (wTS G h dg ln ks nx py fi by0 ou de bt bk bn u np no k c f o) H := hP
  have hD : va_D A (wTS G h dg ln ks nx py fi by0 ou de bt bk bn u np no k c f o) := hD
  refine W.eq (g2 := F0 mm 10 ls [.int (if py < c then o (2 * py + 0) else 0), .ref (h 0)]) rfl ?_
  refine y_eqi (y := o (2 * py)) (if_pos hpy) ?_
  refine y_call (y_runV (As := [.int (o (2 * py))]) (rest := []) hx hb hml hown (c_T_layNumber l G h dg ln ks nx py fi by0 ou de bt bk bn (o (2 * py)) ((o (2 * py)).toInt.natAbs) (by omega) (by omega) (by omega) (abs_or hx1)) (gV (n := 1) hg tk_607 tk_609 (gt_s 30 (by decide +kernel) (by decide +kernel)) tk_6 tk_610 (by decide +kernel) ⟨Nat.le_of_ble_eq_true rfl, Nat.le_of_ble_eq_true rfl⟩) (va_recv hK hP (ci := 3) (q0 := 0) rfl rfl) (y_pre hE hK hP hD hS hA [0, 1, 2, 3, 4, 5] rfl rfl) rfl rfl hl.1 rfl (lv_room (Nat.le_of_ble_eq_true rfl)) d_T_layPoint_10 ⟨Nat.le_of_ble_eq_true rfl, Nat.le_of_ble_eq_true rfl⟩) hP hD hS hA [0, 1, 2, 3, 4, 5] rfl (fun _ _ _ _ _ _ hp => False.elim hp) (fun v9 w9 H locs hp hlw hP hD hS => ?_)
  obtain ⟨de9_10, rfl, rfl⟩ := hp
  have hP : va_P (gD G) vwC (wTS G h dg ln ks nx py fi by0 (ou ++ (sgT (o (2 * py)) ++ nmL dg ((o (2 * py)).toInt.natAbs))) de9_10 bt bk bn u np no k c f o) H := hP
  have hD : va_D A (wTS G h dg ln ks nx py fi by0 (ou ++ (sgT (o (2 * py)) ++ nmL dg ((o (2 * py)).toInt.natAbs))) de9_10 bt bk bn u np no k c f o) := hD
  refine W.eq (g2 := F0 mm 13 ls []) rfl ?_
  refine lv_aload_n hx hb d_T_layPoint_13 rfl (lv_at hl 0 rfl) ?_
  refine lv_bipush (v := nI 32) hx hb d_T_layPoint_14 (by decide) ?_
  refine y_call (y_runV (As := [.int (nI 32)]) (rest := []) hx hb hml hown (c_T_put l G h dg ln ks nx py fi by0 (ou ++ (sgT (o (2 * py)) ++ nmL dg ((o (2 * py)).toInt.natAbs))) de9_10 bt bk bn 32 (by show (ou ++ nmX dg (o (2 * py))).length + 1 < _; simp only [List.length_append, List.length_singleton, List.length_cons, List.length_nil]; omega)) (gV (n := 1) hg tk_572 tk_574 (gt_s 25 (by decide +kernel) (by decide +kernel)) tk_6 tk_575 (by decide +kernel) ⟨Nat.le_of_ble_eq_true rfl, Nat.le_of_ble_eq_true rfl⟩) (va_recv hK hP (ci := 3) (q0 := 0) rfl rfl) (y_pre hE hK hP hD hS hA [0, 1, 2, 3, 4, 5] rfl rfl) rfl rfl hl.1 rfl (lv_room (Nat.le_of_ble_eq_true rfl)) d_T_layPoint_16 ⟨Nat.le_of_ble_eq_true rfl, Nat.le_of_ble_eq_true rfl⟩) hP hD hS hA [0, 1, 2, 3, 4, 5] rfl (fun _ _ _ _ _ _ hp => False.elim hp) (fun v9 w9 H locs hp hlw hP hD hS => ?_)
  obtain ⟨rfl, rfl⟩ := hp
  have hP : va_P (gD G) vwC (wTS G h dg ln ks nx py fi by0 ((ou ++ (sgT (o (2 * py)) ++ nmL dg ((o (2 * py)).toInt.natAbs))) ++ [32]) de9_10 bt bk bn u np no k c f o) H := hP
  have hD : va_D A (wTS G h dg ln ks nx py fi by0 ((ou ++ (sgT (o (2 * py)) ++ nmL dg ((o (2 * py)).toInt.natAbs))) ++ [32]) de9_10 bt bk bn u np no k c f o) := hD
  refine W.eq (g2 := F0 mm 19 ls []) rfl ?_
  refine lv_aload_n hx hb d_T_layPoint_19 rfl (lv_at hl 0 rfl) ?_
  refine lv_aload_n hx hb d_T_layPoint_20 rfl (lv_at hl 1 rfl) ?_
  refine lv_aload_n hx hb d_T_layPoint_21 rfl (lv_at hl 0 rfl) ?_
  refine va_get (D := gD G) (ci := 3) (v := .int (nI py)) (C := "WordShapes$Writer") (T := TT) (N := 10) hx hb hg iw_T hown hK hP 0 rfl rfl 8 (by decide) (hg _ tk_132) (fun _ h9 => h9) rfl d_T_layPoint_22 ?_
  refine lv_iconst (v := nI 1) hx hb d_T_layPoint_25 (by decide) ?_
  refine y_call (y_runV (As := [.int (nI py), .int (nI 1)]) (rest := [.ref (h 0)]) hx hb hml hown (c_S_ordinateAt l G u np no k c f o py 1 (by omega) (by omega) (by omega) (by omega)) (gV (n := 2) hg tk_603 tk_604 tk_605 tk_3 tk_606 (by decide +kernel) ⟨Nat.le_of_ble_eq_true rfl, Nat.le_of_ble_eq_true rfl⟩) (va_recv hK hP (ci := 2) (q0 := 6) rfl rfl) (y_pre hE hK hP hD hS hA [6, 7, 8] rfl rfl) rfl rfl hl.1 rfl (lv_room (Nat.le_of_ble_eq_true rfl)) d_T_layPoint_26 ⟨Nat.le_of_ble_eq_true rfl, Nat.le_of_ble_eq_true rfl⟩) hP hD hS hA [6, 7, 8] rfl (fun _ _ _ _ _ _ hp => False.elim hp) (fun v9 w9 H locs hp hlw hP hD hS => ?_)
  obtain ⟨rfl, rfl⟩ := hp
  have hP : va_P (gD G) vwC (wTS G h dg ln ks nx py fi by0 ((ou ++ (sgT (o (2 * py)) ++ nmL dg ((o (2 * py)).toInt.natAbs))) ++ [32]) de9_10 bt bk bn u np no k c f o) H := hP
  have hD : va_D A (wTS G h dg ln ks nx py fi by0 ((ou ++ (sgT (o (2 * py)) ++ nmL dg ((o (2 * py)).toInt.natAbs))) ++ [32]) de9_10 bt bk bn u np no k c f o) := hD
  refine W.eq (g2 := F0 mm 29 ls [.int (if py < c then o (2 * py + 1) else 0), .ref (h 0)]) rfl ?_
  refine y_eqi (y := o (2 * py + 1)) (if_pos hpy) ?_
  refine y_call (y_runV (As := [.int (o (2 * py + 1))]) (rest := []) hx hb hml hown (c_T_layNumber l G h dg ln ks nx py fi by0 ((ou ++ (sgT (o (2 * py)) ++ nmL dg ((o (2 * py)).toInt.natAbs))) ++ [32]) de9_10 bt bk bn (o (2 * py + 1)) ((o (2 * py + 1)).toInt.natAbs) (by show (ou ++ nmX dg (o (2 * py)) ++ [32]).length + 30 < _; simp only [List.length_append, List.length_singleton, List.length_cons, List.length_nil]; omega) (by omega) (by omega) (abs_or hx2)) (gV (n := 1) hg tk_607 tk_609 (gt_s 30 (by decide +kernel) (by decide +kernel)) tk_6 tk_610 (by decide +kernel) ⟨Nat.le_of_ble_eq_true rfl, Nat.le_of_ble_eq_true rfl⟩) (va_recv hK hP (ci := 3) (q0 := 0) rfl rfl) (y_pre hE hK hP hD hS hA [0, 1, 2, 3, 4, 5] rfl rfl) rfl rfl hl.1 rfl (lv_room (Nat.le_of_ble_eq_true rfl)) d_T_layPoint_29 ⟨Nat.le_of_ble_eq_true rfl, Nat.le_of_ble_eq_true rfl⟩) hP hD hS hA [0, 1, 2, 3, 4, 5] rfl (fun _ _ _ _ _ _ hp => False.elim hp) (fun v9 w9 H locs hp hlw hP hD hS => ?_)
  obtain ⟨de9_29, rfl, rfl⟩ := hp
  have hP : va_P (gD G) vwC (wTS G h dg ln ks nx py fi by0 (((ou ++ (sgT (o (2 * py)) ++ nmL dg ((o (2 * py)).toInt.natAbs))) ++ [32]) ++ (sgT (o (2 * py + 1)) ++ nmL dg ((o (2 * py + 1)).toInt.natAbs))) de9_29 bt bk bn u np no k c f o) H := hP
  have hD : va_D A (wTS G h dg ln ks nx py fi by0 (((ou ++ (sgT (o (2 * py)) ++ nmL dg ((o (2 * py)).toInt.natAbs))) ++ [32]) ++ (sgT (o (2 * py + 1)) ++ nmL dg ((o (2 * py + 1)).toInt.natAbs))) de9_29 bt bk bn u np no k c f o) := hD
  refine W.eq (g2 := F0 mm 32 ls []) rfl ?_
  refine lv_aload_n hx hb d_T_layPoint_32 rfl (lv_at hl 0 rfl) ?_
  refine lv_dup hx hb d_T_layPoint_33 rfl ?_
  refine va_get (D := gD G) (ci := 3) (v := .int (nI py)) (C := "WordShapes$Writer") (T := TT) (N := 10) hx hb hg iw_T hown hK hP 0 rfl rfl 8 (by decide) (hg _ tk_132) (fun _ h9 => h9) rfl d_T_layPoint_34 ?_
  refine lv_iconst (v := nI 1) hx hb d_T_layPoint_37 (by decide) ?_
  refine lv_iadd hx hb d_T_layPoint_38 ?_
  refine y_eqi (nI_add _ _) ?_
  refine va_put (D := gD G) (ci := 3) (v := .int (nI (py + 1))) (ty := .int) (C := "WordShapes$Writer") (T := TT) (N := 10) hx hb hg iw_T ft_T fo_T nm_T hown hK hP hD hS 0 rfl rfl 8 (by decide) (hg _ tk_132) (fun _ h9 => h9) rfl (by decide +kernel) (rfl) (rfl) (Nat.le_of_ble_eq_true rfl) d_T_layPoint_39 (fun H locs hP hD hS => ?_)
  have hP : va_P (gD G) vwC (wTS G h dg ln ks nx (py + 1) fi by0 (((ou ++ (sgT (o (2 * py)) ++ nmL dg ((o (2 * py)).toInt.natAbs))) ++ [32]) ++ (sgT (o (2 * py + 1)) ++ nmL dg ((o (2 * py + 1)).toInt.natAbs))) de9_29 bt bk bn u np no k c f o) H := hP
  have hD : va_D A (wTS G h dg ln ks nx (py + 1) fi by0 (((ou ++ (sgT (o (2 * py)) ++ nmL dg ((o (2 * py)).toInt.natAbs))) ++ [32]) ++ (sgT (o (2 * py + 1)) ++ nmL dg ((o (2 * py + 1)).toInt.natAbs))) de9_29 bt bk bn u np no k c f o) := hD
  have e9 : ((ou ++ (sgT (o (2 * py)) ++ nmL dg ((o (2 * py)).toInt.natAbs))) ++ [32]) ++ (sgT (o (2 * py + 1)) ++ nmL dg ((o (2 * py + 1)).toInt.natAbs)) = ou ++ ptT dg o py := by unfold ptT nmX; simp only [List.append_assoc]
  rw [e9] at hP hD
  exact yr_v (ws := wTS G h dg ln ks nx (py + 1) fi by0 (ou ++ ptT dg o py) de9_29 bt bk bn u np no k c f o) hx hb hrt hlocks (⟨_, rfl, rfl⟩) rfl hK hP hD hS d_T_layPoint_42
set_option maxHeartbeats 4000000 in
set_option maxRecDepth 100000 in
theorem c_T_layBody (l : Launch) (G : gl) (h : Nat → Nat) (dg : Nat) (ln : Nat) (ks : Bool) (nx : Nat) (py : Nat) (fi : Bool) (by0 : Nat → Int32) (ou : List Nat) (de : Nat → Int32) (bt : Nat) (bk : Nat → Int32) (bn : Nat → Int32) (kd : Int32) (x : Int32) (hou : ou.length + 20 < 2 ^ 30) (hbt : bt < 53) : YC l G y_T_layBody k_T_layBody 3 (Option.none : Option FieldType) 5 107 [.ref (h 0), .int kd, .int x] (wT G h dg ln ks nx py fi by0 ou de bt bk bn) (fun v w => v = none ∧ w = wT G h dg ln ks nx py (if x = 0 then fi else true) by0 (ou ++ (if x = 0 then wdL 8 else [40])) de (if x = 0 then bt else bt + 1) (if x = 0 then bk else upd bk (bt + 1) kd) (if x = 0 then bn else upd bn (bt + 1) x)) (fun _ _ => False) := by
  refine yc_of (by decide) ?_
  intro pg ev sx mm bl mt cd A C0 hP hD
  obtain ⟨hx, hb, hrt, hml, hown, hg, hlocks, hxt, hE, hK, hA, hmn⟩ := C0
  have hS : va_S A sx.heap sx.heap [] := va_S.rf
  have hl := lv_entry ([.ref (h 0), .int kd, .int x]) (n := 3) (Nat.le_of_ble_eq_true rfl)
  rw [lg_entry_eq]
  generalize (lg_sl ([.ref (h 0), .int kd, .int x]) ++ List.replicate (3 - (lg_sl ([.ref (h 0), .int kd, .int x])).length) Slot.unset).toArray = ls at hl ⊢
  have hl : lv_has ls 3 [(0, .ref (h 0)), (1, .int kd), (2, .int x)] := hl
  obtain ⟨H, hH⟩ : ∃ H, H = sx.heap := ⟨_, rfl⟩
  rw [← hH] at hP
  have hS : va_S A sx.heap H [] := by rw [hH]; exact hS
  suffices h9 : W pg l ev (yR 5 107) sx mm _ bl mt cd H [] 0 0 (yMQ bl G A _ _ _ _ sx) (F0 mm 0 ls []) by rw [hH] at h9; exact h9
  obtain ⟨locs, hlo⟩ : ∃ locs : List Loc, locs = [] := ⟨_, rfl⟩
  rw [← hlo] at hS ⊢
  refine lv_iload_n hx hb d_T_layBody_0 rfl (lv_at hl 2 rfl) ?_
  refine lv_if_ne (tgt := 11) hx hb d_T_layBody_1 (by decide) (fun c1 => ?_) (fun c1 => ?_)
  · skip
    refine lv_aload_n hx hb d_T_layBody_11 rfl (lv_at hl 0 rfl) ?_
    refine lv_bipush (v := nI 40) hx hb d_T_layBody_12 (by decide) ?_
    refine y_call (y_runV (As := [.int (nI 40)]) (rest := []) hx hb hml hown (c_T_put l G h dg ln ks nx py fi by0 ou de bt bk bn 40 (by omega)) (gV (n := 1) hg tk_572 tk_574 (gt_s 25 (by decide +kernel) (by decide +kernel)) tk_6 tk_575 (by decide +kernel) ⟨Nat.le_of_ble_eq_true rfl, Nat.le_of_ble_eq_true rfl⟩) (va_recv hK hP (ci := 3) (q0 := 0) rfl rfl) (y_pre hE hK hP hD hS hA [0, 1, 2, 3, 4, 5] rfl rfl) rfl rfl hl.1 rfl (lv_room (Nat.le_of_ble_eq_true rfl)) d_T_layBody_14 ⟨Nat.le_of_ble_eq_true rfl, Nat.le_of_ble_eq_true rfl⟩) hP hD hS hA [0, 1, 2, 3, 4, 5] rfl (fun _ _ _ _ _ _ hp => False.elim hp) (fun v9 w9 H locs hp hlw hP hD hS => ?_)
    obtain ⟨rfl, rfl⟩ := hp
    have hP : va_P (gD G) vwC (wT G h dg ln ks nx py fi by0 (ou ++ [40]) de bt bk bn) H := hP
    have hD : va_D A (wT G h dg ln ks nx py fi by0 (ou ++ [40]) de bt bk bn) := hD
    refine W.eq (g2 := F0 mm 17 ls []) rfl ?_
    refine lv_aload_n hx hb d_T_layBody_17 rfl (lv_at hl 0 rfl) ?_
    refine va_get (D := gD G) (ci := 3) (v := .ref (h 3)) (C := "WordShapes$Writer") (T := TT) (N := 10) hx hb hg iw_T hown hK hP 0 rfl rfl 3 (by decide) (hg _ tk_127) (fun _ h9 => h9) rfl d_T_layBody_18 ?_
    refine lv_iload_n hx hb d_T_layBody_21 rfl (lv_at hl 1 rfl) ?_
    refine lv_iload_n hx hb d_T_layBody_22 rfl (lv_at hl 2 rfl) ?_
    refine y_call (y_runV (As := [.int kd, .int x]) (rest := []) hx hb hml hown (c_B_open l G (fun i => h (i + 3)) bt bk bn kd x (by omega)) (gV (n := 2) hg tk_598 tk_473 tk_474 tk_5 tk_475 (by decide +kernel) ⟨Nat.le_of_ble_eq_true rfl, Nat.le_of_ble_eq_true rfl⟩) (va_recv hK hP (ci := 0) (q0 := 3) rfl rfl) (y_pre hE hK hP hD hS hA [3, 4, 5] rfl rfl) rfl rfl hl.1 rfl (lv_room (Nat.le_of_ble_eq_true rfl)) d_T_layBody_23 ⟨Nat.le_of_ble_eq_true rfl, Nat.le_of_ble_eq_true rfl⟩) hP hD hS hA [3, 4, 5] rfl (fun _ _ _ _ _ _ hp => False.elim hp) (fun v9 w9 H locs hp hlw hP hD hS => ?_)
    obtain ⟨rfl, rfl⟩ := hp
    have hP : va_P (gD G) vwC (wT G h dg ln ks nx py fi by0 (ou ++ [40]) de (bt + 1) (upd bk (bt + 1) kd) (upd bn (bt + 1) x)) H := hP
    have hD : va_D A (wT G h dg ln ks nx py fi by0 (ou ++ [40]) de (bt + 1) (upd bk (bt + 1) kd) (upd bn (bt + 1) x)) := hD
    refine W.eq (g2 := F0 mm 26 ls []) rfl ?_
    refine lv_aload_n hx hb d_T_layBody_26 rfl (lv_at hl 0 rfl) ?_
    refine lv_iconst (v := nI 1) hx hb d_T_layBody_27 (by decide) ?_
    refine va_put (D := gD G) (ci := 3) (v := .int (bz true)) (ty := .boolean) (C := "WordShapes$Writer") (T := TT) (N := 10) hx hb hg iw_T ft_T fo_T nm_T hown hK hP hD hS 0 rfl rfl 9 (by decide) (hg _ tk_133) (fun _ h9 => h9) rfl (by decide +kernel) (bz_nar true) (bz_fit true) (Nat.le_of_ble_eq_true rfl) d_T_layBody_28 (fun H locs hP hD hS => ?_)
    have hP : va_P (gD G) vwC (wT G h dg ln ks nx py true by0 (ou ++ [40]) de (bt + 1) (upd bk (bt + 1) kd) (upd bn (bt + 1) x)) H := hP
    have hD : va_D A (wT G h dg ln ks nx py true by0 (ou ++ [40]) de (bt + 1) (upd bk (bt + 1) kd) (upd bn (bt + 1) x)) := hD
    exact yr_v (ws := wT G h dg ln ks nx py true by0 (ou ++ [40]) de (bt + 1) (upd bk (bt + 1) kd) (upd bn (bt + 1) x)) hx hb hrt hlocks (⟨rfl, by rw [if_neg c1, if_neg c1, if_neg c1, if_neg c1, if_neg c1]⟩) rfl hK hP hD hS d_T_layBody_31
  · skip
    refine lv_aload_n hx hb d_T_layBody_4 rfl (lv_at hl 0 rfl) ?_
    refine va_ldcS hx hb hown (sr_597 hE.2.1) d_T_layBody_5 ?_
    refine y_call (y_runV (As := [.ref (gs G 15)]) (rest := []) hx hb hml hown (c_T_layWord l G h dg ln ks nx py fi by0 ou de bt bk bn (gs G 15) (gv G 15) 8 (by omega) (str_eT)) (gV (n := 1) hg tk_583 tk_585 (gt_s 26 (by decide +kernel) (by decide +kernel)) tk_6 tk_586 (by decide +kernel) ⟨Nat.le_of_ble_eq_true rfl, Nat.le_of_ble_eq_true rfl⟩) (va_recv hK hP (ci := 3) (q0 := 0) rfl rfl) (y_pre hE hK hP hD hS hA [0, 1, 2, 3, 4, 5] rfl rfl) rfl rfl hl.1 rfl (lv_room (Nat.le_of_ble_eq_true rfl)) d_T_layBody_7 ⟨Nat.le_of_ble_eq_true rfl, Nat.le_of_ble_eq_true rfl⟩) hP hD hS hA [0, 1, 2, 3, 4, 5] rfl (fun _ _ _ _ _ _ hp => False.elim hp) (fun v9 w9 H locs hp hlw hP hD hS => ?_)
    obtain ⟨rfl, rfl⟩ := hp
    have hP : va_P (gD G) vwC (wT G h dg ln ks nx py fi by0 (ou ++ wdL 8) de bt bk bn) H := hP
    have hD : va_D A (wT G h dg ln ks nx py fi by0 (ou ++ wdL 8) de bt bk bn) := hD
    refine W.eq (g2 := F0 mm 10 ls []) rfl ?_
    exact yr_v (ws := wT G h dg ln ks nx py fi by0 (ou ++ wdL 8) de bt bk bn) hx hb hrt hlocks (⟨rfl, by rw [if_pos c1, if_pos c1, if_pos c1, if_pos c1, if_pos c1]⟩) rfl hK hP hD hS d_T_layBody_10
set_option maxHeartbeats 4000000 in
set_option maxRecDepth 100000 in
theorem c_T_layItem (l : Launch) (G : gl) (h : Nat → Nat) (dg : Nat) (ln : Nat) (ks : Bool) (nx : Nat) (py : Nat) (fi : Bool) (by0 : Nat → Int32) (ou : List Nat) (de : Nat → Int32) (bt : Nat) (bk : Nat → Int32) (bn : Nat → Int32) (u : Nat → Nat) (np : Nat) (no : Nat) (k : Nat) (c : Nat) (f : Nat → Int32) (o : Nat → Int32) (K : Nat) (hk : k ≤ np) (hnp : np ≤ 4096) (hc : 2 * c ≤ no) (hno : no ≤ 8192) (hou : ou.length + 120 < 2 ^ 30) (hdg : dg ≤ 3) (hKb : bk bt = nI K) (hW : wIo K k f c o nx py bt) : YC l G y_T_layItem k_T_layItem 2 (Option.none : Option FieldType) 6 129 [.ref (h 0), .ref (u 0)] (wTS G h dg ln ks nx py fi by0 ou de bt bk bn u np no k c f o) (fun v w => ∃ ou9 nx9 py9 fi9 bt9 bk9 bn9 de9, wIt dg K f o fi ou nx py bt bk bn = (ou9, nx9, py9, fi9, bt9, bk9, bn9) ∧ v = none ∧ w = wTS G h dg ln ks nx9 py9 fi9 by0 ou9 de9 bt9 bk9 bn9 u np no k c f o) (fun _ _ => False) := by
  refine yc_of (by decide) ?_
  intro pg ev sx mm bl mt cd A C0 hP hD
  obtain ⟨hx, hb, hrt, hml, hown, hg, hlocks, hxt, hE, hK, hA, hmn⟩ := C0
  have hS : va_S A sx.heap sx.heap [] := va_S.rf
  have hl := lv_entry ([.ref (h 0), .ref (u 0)]) (n := 2) (Nat.le_of_ble_eq_true rfl)
  rw [lg_entry_eq]
  generalize (lg_sl ([.ref (h 0), .ref (u 0)]) ++ List.replicate (2 - (lg_sl ([.ref (h 0), .ref (u 0)])).length) Slot.unset).toArray = ls at hl ⊢
  have hl : lv_has ls 2 [(0, .ref (h 0)), (1, .ref (u 0))] := hl
  obtain ⟨hK8, h54, hW1, hW2, hW3, hW4⟩ := hW
  have hpl : (preT fi).length ≤ 2 := by cases fi <;> decide
  obtain ⟨H, hH⟩ : ∃ H, H = sx.heap := ⟨_, rfl⟩
  rw [← hH] at hP
  have hS : va_S A sx.heap H [] := by rw [hH]; exact hS
  suffices h9 : W pg l ev (yR 6 129) sx mm _ bl mt cd H [] 0 0 (yMQ bl G A _ _ _ _ sx) (F0 mm 0 ls []) by rw [hH] at h9; exact h9
  obtain ⟨locs, hlo⟩ : ∃ locs : List Loc, locs = [] := ⟨_, rfl⟩
  rw [← hlo] at hS ⊢
  have J19 : ∀   (H : Heap) (locs : List Loc) (ls : Array Slot), va_P (gD G) vwC (wTS G h dg ln ks nx py fi by0 (ou ++ preT fi) de bt bk bn u np no k c f o) H → va_D A (wTS G h dg ln ks nx py fi by0 (ou ++ preT fi) de bt bk bn u np no k c f o) → va_S A sx.heap H locs → lv_has ls 2 [(0, .ref (h 0)), (1, .ref (u 0))] → W pg l ev (yR 6 129) sx mm ([.ref (h 0), .ref (u 0)] : List Value).toArray bl mt cd H locs 0 0 (yMQ bl G A (wTS G h dg ln ks nx py fi by0 ou de bt bk bn u np no k c f o).length (fun v w => ∃ ou9 nx9 py9 fi9 bt9 bk9 bn9 de9, wIt dg K f o fi ou nx py bt bk bn = (ou9, nx9, py9, fi9, bt9, bk9, bn9) ∧ v = none ∧ w = wTS G h dg ln ks nx9 py9 fi9 by0 ou9 de9 bt9 bk9 bn9 u np no k c f o) (fun _ _ => False) ([.ref (h 0), .ref (u 0)] : List Value).toArray sx) (F0 mm 19 ls []) := by
    intro   H locs ls hP hD hS hl
    refine lv_aload_n hx hb d_T_layItem_19 rfl (lv_at hl 0 rfl) ?_
    refine lv_iconst (v := nI 0) hx hb d_T_layItem_20 (by decide) ?_
    refine va_put (D := gD G) (ci := 3) (v := .int (bz false)) (ty := .boolean) (C := "WordShapes$Writer") (T := TT) (N := 10) hx hb hg iw_T ft_T fo_T nm_T hown hK hP hD hS 0 rfl rfl 9 (by decide) (hg _ tk_133) (fun _ h9 => h9) rfl (by decide +kernel) (bz_nar false) (bz_fit false) (Nat.le_of_ble_eq_true rfl) d_T_layItem_21 (fun H locs hP hD hS => ?_)
    have hP : va_P (gD G) vwC (wTS G h dg ln ks nx py false by0 (ou ++ preT fi) de bt bk bn u np no k c f o) H := hP
    have hD : va_D A (wTS G h dg ln ks nx py false by0 (ou ++ preT fi) de bt bk bn u np no k c f o) := hD
    refine lv_aload_n hx hb d_T_layItem_24 rfl (lv_at hl 0 rfl) ?_
    refine va_get (D := gD G) (ci := 3) (v := .ref (h 3)) (C := "WordShapes$Writer") (T := TT) (N := 10) hx hb hg iw_T hown hK hP 0 rfl rfl 3 (by decide) (hg _ tk_127) (fun _ h9 => h9) rfl d_T_layItem_25 ?_
    refine y_call (y_runV (As := []) (rest := []) hx hb hml hown (c_B_lessOne l G (fun i => h (i + 3)) bt bk bn  (by omega)) (gV (n := 0) hg tk_576 tk_577 tk_578 tk_5 tk_579 (by decide +kernel) ⟨Nat.le_of_ble_eq_true rfl, Nat.le_of_ble_eq_true rfl⟩) (va_recv hK hP (ci := 0) (q0 := 3) rfl rfl) (y_pre hE hK hP hD hS hA [3, 4, 5] rfl rfl) rfl rfl hl.1 rfl (lv_room (Nat.le_of_ble_eq_true rfl)) d_T_layItem_28 ⟨Nat.le_of_ble_eq_true rfl, Nat.le_of_ble_eq_true rfl⟩) hP hD hS hA [3, 4, 5] rfl (fun _ _ _ _ _ _ hp => False.elim hp) (fun v9 w9 H locs hp hlw hP hD hS => ?_)
    obtain ⟨rfl, rfl⟩ := hp
    have hP : va_P (gD G) vwC (wTS G h dg ln ks nx py false by0 (ou ++ preT fi) de bt bk (upd bn bt (bn bt - 1)) u np no k c f o) H := hP
    have hD : va_D A (wTS G h dg ln ks nx py false by0 (ou ++ preT fi) de bt bk (upd bn bt (bn bt - 1)) u np no k c f o) := hD
    refine W.eq (g2 := F0 mm 31 ls []) rfl ?_
    refine lv_aload_n hx hb d_T_layItem_31 rfl (lv_at hl 0 rfl) ?_
    refine va_get (D := gD G) (ci := 3) (v := .ref (h 3)) (C := "WordShapes$Writer") (T := TT) (N := 10) hx hb hg iw_T hown hK hP 0 rfl rfl 3 (by decide) (hg _ tk_127) (fun _ h9 => h9) rfl d_T_layItem_32 ?_
    refine y_call (y_runV (As := []) (rest := []) hx hb hml hown (c_B_kind l G (fun i => h (i + 3)) bt bk (upd bn bt (bn bt - 1))  (by omega)) (gV (n := 0) hg tk_580 tk_349 tk_350 tk_5 tk_351 (by decide +kernel) ⟨Nat.le_of_ble_eq_true rfl, Nat.le_of_ble_eq_true rfl⟩) (va_recv hK hP (ci := 0) (q0 := 3) rfl rfl) (y_pre hE hK hP hD hS hA [3, 4, 5] rfl rfl) rfl rfl hl.1 rfl (lv_room (Nat.le_of_ble_eq_true rfl)) d_T_layItem_35 ⟨Nat.le_of_ble_eq_true rfl, Nat.le_of_ble_eq_true rfl⟩) hP hD hS hA [3, 4, 5] rfl (fun _ _ _ _ _ _ hp => False.elim hp) (fun v9 w9 H locs hp hlw hP hD hS => ?_)
    obtain ⟨rfl, rfl⟩ := hp
    have hP : va_P (gD G) vwC (wTS G h dg ln ks nx py false by0 (ou ++ preT fi) de bt bk (upd bn bt (bn bt - 1)) u np no k c f o) H := hP
    have hD : va_D A (wTS G h dg ln ks nx py false by0 (ou ++ preT fi) de bt bk (upd bn bt (bn bt - 1)) u np no k c f o) := hD
    refine W.eq (g2 := F0 mm 38 ls [.int (bk bt)]) rfl ?_
    refine y_eqi (y := nI K) (hKb) ?_
    rcases (show K = 0 ∨ K = 1 ∨ K = 2 ∨ K = 3 ∨ K = 4 ∨ K = 5 ∨ K = 6 ∨ K = 7 ∨ K = 8 by omega) with rfl | rfl | rfl | rfl | rfl | rfl | rfl | rfl | rfl
    · skip
      obtain ⟨hq1, hq2, kd, hq3, hq4, hq5⟩ := hW1 (by decide)
      refine lv_tableIn (off := 46) (tgt := 84) hx hb d_T_layItem_38 (by decide) (by decide) rfl (by decide) ?_
      refine lv_aload_n hx hb d_T_layItem_84 rfl (lv_at hl 0 rfl) ?_
      refine lv_aload_n hx hb d_T_layItem_85 rfl (lv_at hl 1 rfl) ?_
      refine lv_aload_n hx hb d_T_layItem_86 rfl (lv_at hl 0 rfl) ?_
      refine va_get (D := gD G) (ci := 3) (v := .int (nI nx)) (C := "WordShapes$Writer") (T := TT) (N := 10) hx hb hg iw_T hown hK hP 0 rfl rfl 7 (by decide) (hg _ tk_131) (fun _ h9 => h9) rfl d_T_layItem_87 ?_
      refine y_call (y_runV (As := [.int (nI nx)]) (rest := [.ref (h 0)]) hx hb hml hown (c_S_numberAt l G u np no k c f o nx (by omega) (by omega) (by omega)) (gV (n := 1) hg tk_581 tk_538 tk_539 tk_3 tk_540 (by decide +kernel) ⟨Nat.le_of_ble_eq_true rfl, Nat.le_of_ble_eq_true rfl⟩) (va_recv hK hP (ci := 2) (q0 := 6) rfl rfl) (y_pre hE hK hP hD hS hA [6, 7, 8] rfl rfl) rfl rfl hl.1 rfl (lv_room (Nat.le_of_ble_eq_true rfl)) d_T_layItem_90 ⟨Nat.le_of_ble_eq_true rfl, Nat.le_of_ble_eq_true rfl⟩) hP hD hS hA [6, 7, 8] rfl (fun _ _ _ _ _ _ hp => False.elim hp) (fun v9 w9 H locs hp hlw hP hD hS => ?_)
      obtain ⟨rfl, rfl⟩ := hp
      have hP : va_P (gD G) vwC (wTS G h dg ln ks nx py false by0 (ou ++ preT fi) de bt bk (upd bn bt (bn bt - 1)) u np no k c f o) H := hP
      have hD : va_D A (wTS G h dg ln ks nx py false by0 (ou ++ preT fi) de bt bk (upd bn bt (bn bt - 1)) u np no k c f o) := hD
      refine W.eq (g2 := F0 mm 93 ls [.int (if nx < k then f nx else 0), .ref (h 0)]) rfl ?_
      refine y_eqi (y := f nx) (if_pos (by omega)) ?_
      refine y_eqi (y := nI kd) hq5 ?_
      refine y_call (y_runSN (As := [.int (nI kd)]) (rest := [.ref (h 0)]) hx hb hml hown (c_W_wordOf l G  kd (by omega) (by omega)) (gSN (n := 1) hg (nw_582 hE.1) tk_386 tk_1 tk_387 (by decide +kernel) ⟨Nat.le_of_ble_eq_true rfl, Nat.le_of_ble_eq_true rfl⟩) (y_pre hE hK hP hD hS hA [] rfl rfl) rfl rfl hl.1 rfl (lv_room (Nat.le_of_ble_eq_true rfl)) d_T_layItem_93 ⟨Nat.le_of_ble_eq_true rfl, Nat.le_of_ble_eq_true rfl⟩) hP hD hS hA [] rfl (fun _ _ _ _ _ _ hp => False.elim hp) (fun v9 w9 H locs hp hlw hP hD hS => ?_)
      obtain ⟨rfl, rfl⟩ := hp
      have hP : va_P (gD G) vwC (wTS G h dg ln ks nx py false by0 (ou ++ preT fi) de bt bk (upd bn bt (bn bt - 1)) u np no k c f o) H := hP
      have hD : va_D A (wTS G h dg ln ks nx py false by0 (ou ++ preT fi) de bt bk (upd bn bt (bn bt - 1)) u np no k c f o) := hD
      refine W.eq (g2 := F0 mm 96 ls [.ref (gs G (kd + 4)), .ref (h 0)]) rfl ?_
      refine y_call (y_runV (As := [.ref (gs G (kd + 4))]) (rest := []) hx hb hml hown (c_T_layWord l G h dg ln ks nx py false by0 (ou ++ preT fi) de bt bk (upd bn bt (bn bt - 1)) (gs G (kd + 4)) (gv G (kd + 4)) kd (by simp only [List.length_append, List.length_singleton, List.length_cons, List.length_nil]; omega) (str_w hq3 hq4)) (gV (n := 1) hg tk_583 tk_585 (gt_s 26 (by decide +kernel) (by decide +kernel)) tk_6 tk_586 (by decide +kernel) ⟨Nat.le_of_ble_eq_true rfl, Nat.le_of_ble_eq_true rfl⟩) (va_recv hK hP (ci := 3) (q0 := 0) rfl rfl) (y_pre hE hK hP hD hS hA [0, 1, 2, 3, 4, 5] rfl rfl) rfl rfl hl.1 rfl (lv_room (Nat.le_of_ble_eq_true rfl)) d_T_layItem_96 ⟨Nat.le_of_ble_eq_true rfl, Nat.le_of_ble_eq_true rfl⟩) hP hD hS hA [0, 1, 2, 3, 4, 5] rfl (fun _ _ _ _ _ _ hp => False.elim hp) (fun v9 w9 H locs hp hlw hP hD hS => ?_)
      obtain ⟨rfl, rfl⟩ := hp
      have hP : va_P (gD G) vwC (wTS G h dg ln ks nx py false by0 ((ou ++ preT fi) ++ wdL kd) de bt bk (upd bn bt (bn bt - 1)) u np no k c f o) H := hP
      have hD : va_D A (wTS G h dg ln ks nx py false by0 ((ou ++ preT fi) ++ wdL kd) de bt bk (upd bn bt (bn bt - 1)) u np no k c f o) := hD
      refine W.eq (g2 := F0 mm 99 ls []) rfl ?_
      refine lv_aload_n hx hb d_T_layItem_99 rfl (lv_at hl 0 rfl) ?_
      refine lv_bipush (v := nI 32) hx hb d_T_layItem_100 (by decide) ?_
      refine y_call (y_runV (As := [.int (nI 32)]) (rest := []) hx hb hml hown (c_T_put l G h dg ln ks nx py false by0 ((ou ++ preT fi) ++ wdL kd) de bt bk (upd bn bt (bn bt - 1)) 32 (by have := wdL_len kd; simp only [List.length_append, List.length_singleton, List.length_cons, List.length_nil]; omega)) (gV (n := 1) hg tk_572 tk_574 (gt_s 25 (by decide +kernel) (by decide +kernel)) tk_6 tk_575 (by decide +kernel) ⟨Nat.le_of_ble_eq_true rfl, Nat.le_of_ble_eq_true rfl⟩) (va_recv hK hP (ci := 3) (q0 := 0) rfl rfl) (y_pre hE hK hP hD hS hA [0, 1, 2, 3, 4, 5] rfl rfl) rfl rfl hl.1 rfl (lv_room (Nat.le_of_ble_eq_true rfl)) d_T_layItem_102 ⟨Nat.le_of_ble_eq_true rfl, Nat.le_of_ble_eq_true rfl⟩) hP hD hS hA [0, 1, 2, 3, 4, 5] rfl (fun _ _ _ _ _ _ hp => False.elim hp) (fun v9 w9 H locs hp hlw hP hD hS => ?_)
      obtain ⟨rfl, rfl⟩ := hp
      have hP : va_P (gD G) vwC (wTS G h dg ln ks nx py false by0 (((ou ++ preT fi) ++ wdL kd) ++ [32]) de bt bk (upd bn bt (bn bt - 1)) u np no k c f o) H := hP
      have hD : va_D A (wTS G h dg ln ks nx py false by0 (((ou ++ preT fi) ++ wdL kd) ++ [32]) de bt bk (upd bn bt (bn bt - 1)) u np no k c f o) := hD
      refine W.eq (g2 := F0 mm 105 ls []) rfl ?_
      refine lv_aload_n hx hb d_T_layItem_105 rfl (lv_at hl 0 rfl) ?_
      refine lv_aload_n hx hb d_T_layItem_106 rfl (lv_at hl 0 rfl) ?_
      refine lv_aload_n hx hb d_T_layItem_107 rfl (lv_at hl 1 rfl) ?_
      refine y_call (y_runV (As := [.ref (u 0)]) (rest := [.ref (h 0)]) hx hb hml hown (c_T_takeNumber l G h dg ln ks nx py false by0 (((ou ++ preT fi) ++ wdL kd) ++ [32]) de bt bk (upd bn bt (bn bt - 1)) u np no k c f o  (by omega) (by omega) (by omega) (by omega) (by omega)) (gV (n := 1) hg tk_589 tk_591 (gt_s 27 (by decide +kernel) (by decide +kernel)) tk_6 tk_592 (by decide +kernel) ⟨Nat.le_of_ble_eq_true rfl, Nat.le_of_ble_eq_true rfl⟩) (va_recv hK hP (ci := 3) (q0 := 0) rfl rfl) (y_pre hE hK hP hD hS hA [0, 1, 2, 3, 4, 5, 6, 7, 8] rfl rfl) rfl rfl hl.1 rfl (lv_room (Nat.le_of_ble_eq_true rfl)) d_T_layItem_108 ⟨Nat.le_of_ble_eq_true rfl, Nat.le_of_ble_eq_true rfl⟩) hP hD hS hA [0, 1, 2, 3, 4, 5, 6, 7, 8] rfl (fun _ _ _ _ _ _ hp => False.elim hp) (fun v9 w9 H locs hp hlw hP hD hS => ?_)
      obtain ⟨rfl, rfl⟩ := hp
      have hP : va_P (gD G) vwC (wTS G h dg ln ks (nx + 1) py false by0 (((ou ++ preT fi) ++ wdL kd) ++ [32]) de bt bk (upd bn bt (bn bt - 1)) u np no k c f o) H := hP
      have hD : va_D A (wTS G h dg ln ks (nx + 1) py false by0 (((ou ++ preT fi) ++ wdL kd) ++ [32]) de bt bk (upd bn bt (bn bt - 1)) u np no k c f o) := hD
      refine W.eq (g2 := F0 mm 111 ls [.int (f nx), .ref (h 0)]) rfl ?_
      refine y_eqi (y := nI kd) hq5 ?_
      refine lv_aload_n hx hb d_T_layItem_111 rfl (lv_at hl 0 rfl) ?_
      refine lv_aload_n hx hb d_T_layItem_112 rfl (lv_at hl 1 rfl) ?_
      refine y_call (y_runV (As := [.ref (u 0)]) (rest := [.int (nI kd), .ref (h 0)]) hx hb hml hown (c_T_takeNumber l G h dg ln ks (nx + 1) py false by0 (((ou ++ preT fi) ++ wdL kd) ++ [32]) de bt bk (upd bn bt (bn bt - 1)) u np no k c f o  (by omega) (by omega) (by omega) (by omega) (by omega)) (gV (n := 1) hg tk_589 tk_591 (gt_s 27 (by decide +kernel) (by decide +kernel)) tk_6 tk_592 (by decide +kernel) ⟨Nat.le_of_ble_eq_true rfl, Nat.le_of_ble_eq_true rfl⟩) (va_recv hK hP (ci := 3) (q0 := 0) rfl rfl) (y_pre hE hK hP hD hS hA [0, 1, 2, 3, 4, 5, 6, 7, 8] rfl rfl) rfl rfl hl.1 rfl (lv_room (Nat.le_of_ble_eq_true rfl)) d_T_layItem_113 ⟨Nat.le_of_ble_eq_true rfl, Nat.le_of_ble_eq_true rfl⟩) hP hD hS hA [0, 1, 2, 3, 4, 5, 6, 7, 8] rfl (fun _ _ _ _ _ _ hp => False.elim hp) (fun v9 w9 H locs hp hlw hP hD hS => ?_)
      obtain ⟨rfl, rfl⟩ := hp
      have hP : va_P (gD G) vwC (wTS G h dg ln ks ((nx + 1) + 1) py false by0 (((ou ++ preT fi) ++ wdL kd) ++ [32]) de bt bk (upd bn bt (bn bt - 1)) u np no k c f o) H := hP
      have hD : va_D A (wTS G h dg ln ks ((nx + 1) + 1) py false by0 (((ou ++ preT fi) ++ wdL kd) ++ [32]) de bt bk (upd bn bt (bn bt - 1)) u np no k c f o) := hD
      refine W.eq (g2 := F0 mm 116 ls [.int (f (nx + 1)), .int (nI kd), .ref (h 0)]) rfl ?_
      refine y_call (y_runV (As := [.int (nI kd), .int (f (nx + 1))]) (rest := []) hx hb hml hown (c_T_layBody l G h dg ln ks ((nx + 1) + 1) py false by0 (((ou ++ preT fi) ++ wdL kd) ++ [32]) de bt bk (upd bn bt (bn bt - 1)) (nI kd) (f (nx + 1)) (by have := wdL_len kd; simp only [List.length_append, List.length_singleton, List.length_cons, List.length_nil]; omega) (by omega)) (gV (n := 2) hg tk_593 tk_595 (gt_s 28 (by decide +kernel) (by decide +kernel)) tk_6 tk_596 (by decide +kernel) ⟨Nat.le_of_ble_eq_true rfl, Nat.le_of_ble_eq_true rfl⟩) (va_recv hK hP (ci := 3) (q0 := 0) rfl rfl) (y_pre hE hK hP hD hS hA [0, 1, 2, 3, 4, 5] rfl rfl) rfl rfl hl.1 rfl (lv_room (Nat.le_of_ble_eq_true rfl)) d_T_layItem_116 ⟨Nat.le_of_ble_eq_true rfl, Nat.le_of_ble_eq_true rfl⟩) hP hD hS hA [0, 1, 2, 3, 4, 5] rfl (fun _ _ _ _ _ _ hp => False.elim hp) (fun v9 w9 H locs hp hlw hP hD hS => ?_)
      obtain ⟨rfl, rfl⟩ := hp
      have hP : va_P (gD G) vwC (wTS G h dg ln ks ((nx + 1) + 1) py (if (f (nx + 1)) = 0 then false else true) by0 ((((ou ++ preT fi) ++ wdL kd) ++ [32]) ++ (if (f (nx + 1)) = 0 then wdL 8 else [40])) de (if (f (nx + 1)) = 0 then bt else bt + 1) (if (f (nx + 1)) = 0 then bk else upd bk (bt + 1) (nI kd)) (if (f (nx + 1)) = 0 then (upd bn bt (bn bt - 1)) else upd (upd bn bt (bn bt - 1)) (bt + 1) (f (nx + 1))) u np no k c f o) H := hP
      have hD : va_D A (wTS G h dg ln ks ((nx + 1) + 1) py (if (f (nx + 1)) = 0 then false else true) by0 ((((ou ++ preT fi) ++ wdL kd) ++ [32]) ++ (if (f (nx + 1)) = 0 then wdL 8 else [40])) de (if (f (nx + 1)) = 0 then bt else bt + 1) (if (f (nx + 1)) = 0 then bk else upd bk (bt + 1) (nI kd)) (if (f (nx + 1)) = 0 then (upd bn bt (bn bt - 1)) else upd (upd bn bt (bn bt - 1)) (bt + 1) (f (nx + 1))) u np no k c f o) := hD
      refine W.eq (g2 := F0 mm 119 ls []) rfl ?_
      refine lv_goto (tgt := 158) hx hb d_T_layItem_119 (by decide) ?_
      exact yr_v (ws := wTS G h dg ln ks ((nx + 1) + 1) py (if (f (nx + 1)) = 0 then false else true) by0 ((((ou ++ preT fi) ++ wdL kd) ++ [32]) ++ (if (f (nx + 1)) = 0 then wdL 8 else [40])) de (if (f (nx + 1)) = 0 then bt else bt + 1) (if (f (nx + 1)) = 0 then bk else upd bk (bt + 1) (nI kd)) (if (f (nx + 1)) = 0 then (upd bn bt (bn bt - 1)) else upd (upd bn bt (bn bt - 1)) (bt + 1) (f (nx + 1))) u np no k c f o) hx hb hrt hlocks (⟨_, _, _, _, _, _, _, _, by first | (rw [wIt_c (by decide) hq5 hq4]; unfold bdW; rw [dec_if]) | (rw [wIt_m (by decide)]; unfold bdW; rw [dec_if]) | (rw [wIt_3]; unfold bdW; rw [dec_if]) | rw [wIt_d (by decide)], rfl, rfl⟩) rfl hK hP hD hS d_T_layItem_158
    · skip
      obtain ⟨hq1, hq2, hq3⟩ := hW4 (by decide)
      refine lv_tableIn (off := 115) (tgt := 153) hx hb d_T_layItem_38 (by decide) (by decide) rfl (by decide) ?_
      refine lv_aload_n hx hb d_T_layItem_153 rfl (lv_at hl 0 rfl) ?_
      refine lv_aload_n hx hb d_T_layItem_154 rfl (lv_at hl 1 rfl) ?_
      refine y_call (y_runV (As := [.ref (u 0)]) (rest := []) hx hb hml hown (c_T_layPoint l G h dg ln ks nx py false by0 (ou ++ preT fi) de bt bk (upd bn bt (bn bt - 1)) u np no k c f o  (by omega) (by omega) (by omega) (by omega) (by simp only [List.length_append, List.length_singleton, List.length_cons, List.length_nil]; omega) (by omega) (by omega) (hq2) (hq3)) (gV (n := 1) hg tk_599 tk_601 (gt_s 29 (by decide +kernel) (by decide +kernel)) tk_6 tk_602 (by decide +kernel) ⟨Nat.le_of_ble_eq_true rfl, Nat.le_of_ble_eq_true rfl⟩) (va_recv hK hP (ci := 3) (q0 := 0) rfl rfl) (y_pre hE hK hP hD hS hA [0, 1, 2, 3, 4, 5, 6, 7, 8] rfl rfl) rfl rfl hl.1 rfl (lv_room (Nat.le_of_ble_eq_true rfl)) d_T_layItem_155 ⟨Nat.le_of_ble_eq_true rfl, Nat.le_of_ble_eq_true rfl⟩) hP hD hS hA [0, 1, 2, 3, 4, 5, 6, 7, 8] rfl (fun _ _ _ _ _ _ hp => False.elim hp) (fun v9 w9 H locs hp hlw hP hD hS => ?_)
      obtain ⟨de9_155, rfl, rfl⟩ := hp
      have hP : va_P (gD G) vwC (wTS G h dg ln ks nx (py + 1) false by0 ((ou ++ preT fi) ++ ptT dg o py) de9_155 bt bk (upd bn bt (bn bt - 1)) u np no k c f o) H := hP
      have hD : va_D A (wTS G h dg ln ks nx (py + 1) false by0 ((ou ++ preT fi) ++ ptT dg o py) de9_155 bt bk (upd bn bt (bn bt - 1)) u np no k c f o) := hD
      refine W.eq (g2 := F0 mm 158 ls []) rfl ?_
      exact yr_v (ws := wTS G h dg ln ks nx (py + 1) false by0 ((ou ++ preT fi) ++ ptT dg o py) de9_155 bt bk (upd bn bt (bn bt - 1)) u np no k c f o) hx hb hrt hlocks (⟨_, _, _, _, _, _, _, _, by first | (rw [wIt_c (by decide) hq5 hq4]; unfold bdW; rw [dec_if]) | (rw [wIt_m (by decide)]; unfold bdW; rw [dec_if]) | (rw [wIt_3]; unfold bdW; rw [dec_if]) | rw [wIt_d (by decide)], rfl, rfl⟩) rfl hK hP hD hS d_T_layItem_158
    · skip
      obtain ⟨hq1, hq2, hq3⟩ := hW4 (by decide)
      refine lv_tableIn (off := 115) (tgt := 153) hx hb d_T_layItem_38 (by decide) (by decide) rfl (by decide) ?_
      refine lv_aload_n hx hb d_T_layItem_153 rfl (lv_at hl 0 rfl) ?_
      refine lv_aload_n hx hb d_T_layItem_154 rfl (lv_at hl 1 rfl) ?_
      refine y_call (y_runV (As := [.ref (u 0)]) (rest := []) hx hb hml hown (c_T_layPoint l G h dg ln ks nx py false by0 (ou ++ preT fi) de bt bk (upd bn bt (bn bt - 1)) u np no k c f o  (by omega) (by omega) (by omega) (by omega) (by simp only [List.length_append, List.length_singleton, List.length_cons, List.length_nil]; omega) (by omega) (by omega) (hq2) (hq3)) (gV (n := 1) hg tk_599 tk_601 (gt_s 29 (by decide +kernel) (by decide +kernel)) tk_6 tk_602 (by decide +kernel) ⟨Nat.le_of_ble_eq_true rfl, Nat.le_of_ble_eq_true rfl⟩) (va_recv hK hP (ci := 3) (q0 := 0) rfl rfl) (y_pre hE hK hP hD hS hA [0, 1, 2, 3, 4, 5, 6, 7, 8] rfl rfl) rfl rfl hl.1 rfl (lv_room (Nat.le_of_ble_eq_true rfl)) d_T_layItem_155 ⟨Nat.le_of_ble_eq_true rfl, Nat.le_of_ble_eq_true rfl⟩) hP hD hS hA [0, 1, 2, 3, 4, 5, 6, 7, 8] rfl (fun _ _ _ _ _ _ hp => False.elim hp) (fun v9 w9 H locs hp hlw hP hD hS => ?_)
      obtain ⟨de9_155, rfl, rfl⟩ := hp
      have hP : va_P (gD G) vwC (wTS G h dg ln ks nx (py + 1) false by0 ((ou ++ preT fi) ++ ptT dg o py) de9_155 bt bk (upd bn bt (bn bt - 1)) u np no k c f o) H := hP
      have hD : va_D A (wTS G h dg ln ks nx (py + 1) false by0 ((ou ++ preT fi) ++ ptT dg o py) de9_155 bt bk (upd bn bt (bn bt - 1)) u np no k c f o) := hD
      refine W.eq (g2 := F0 mm 158 ls []) rfl ?_
      exact yr_v (ws := wTS G h dg ln ks nx (py + 1) false by0 ((ou ++ preT fi) ++ ptT dg o py) de9_155 bt bk (upd bn bt (bn bt - 1)) u np no k c f o) hx hb hrt hlocks (⟨_, _, _, _, _, _, _, _, by first | (rw [wIt_c (by decide) hq5 hq4]; unfold bdW; rw [dec_if]) | (rw [wIt_m (by decide)]; unfold bdW; rw [dec_if]) | (rw [wIt_3]; unfold bdW; rw [dec_if]) | rw [wIt_d (by decide)], rfl, rfl⟩) rfl hK hP hD hS d_T_layItem_158
    · skip
      obtain ⟨hq1, hq2⟩ := hW3 rfl
      refine lv_tableIn (off := 101) (tgt := 139) hx hb d_T_layItem_38 (by decide) (by decide) rfl (by decide) ?_
      refine lv_aload_n hx hb d_T_layItem_139 rfl (lv_at hl 0 rfl) ?_
      refine lv_bipush (v := nI 8) hx hb d_T_layItem_140 (by decide) ?_
      refine lv_aload_n hx hb d_T_layItem_142 rfl (lv_at hl 0 rfl) ?_
      refine lv_aload_n hx hb d_T_layItem_143 rfl (lv_at hl 1 rfl) ?_
      refine y_call (y_runV (As := [.ref (u 0)]) (rest := [.int (nI 8), .ref (h 0)]) hx hb hml hown (c_T_takeNumber l G h dg ln ks nx py false by0 (ou ++ preT fi) de bt bk (upd bn bt (bn bt - 1)) u np no k c f o  (by omega) (by omega) (by omega) (by omega) (by omega)) (gV (n := 1) hg tk_589 tk_591 (gt_s 27 (by decide +kernel) (by decide +kernel)) tk_6 tk_592 (by decide +kernel) ⟨Nat.le_of_ble_eq_true rfl, Nat.le_of_ble_eq_true rfl⟩) (va_recv hK hP (ci := 3) (q0 := 0) rfl rfl) (y_pre hE hK hP hD hS hA [0, 1, 2, 3, 4, 5, 6, 7, 8] rfl rfl) rfl rfl hl.1 rfl (lv_room (Nat.le_of_ble_eq_true rfl)) d_T_layItem_144 ⟨Nat.le_of_ble_eq_true rfl, Nat.le_of_ble_eq_true rfl⟩) hP hD hS hA [0, 1, 2, 3, 4, 5, 6, 7, 8] rfl (fun _ _ _ _ _ _ hp => False.elim hp) (fun v9 w9 H locs hp hlw hP hD hS => ?_)
      obtain ⟨rfl, rfl⟩ := hp
      have hP : va_P (gD G) vwC (wTS G h dg ln ks (nx + 1) py false by0 (ou ++ preT fi) de bt bk (upd bn bt (bn bt - 1)) u np no k c f o) H := hP
      have hD : va_D A (wTS G h dg ln ks (nx + 1) py false by0 (ou ++ preT fi) de bt bk (upd bn bt (bn bt - 1)) u np no k c f o) := hD
      refine W.eq (g2 := F0 mm 147 ls [.int (f nx), .int (nI 8), .ref (h 0)]) rfl ?_
      refine y_call (y_runV (As := [.int (nI 8), .int (f nx)]) (rest := []) hx hb hml hown (c_T_layBody l G h dg ln ks (nx + 1) py false by0 (ou ++ preT fi) de bt bk (upd bn bt (bn bt - 1)) (nI 8) (f nx) (by simp only [List.length_append, List.length_singleton, List.length_cons, List.length_nil]; omega) (by omega)) (gV (n := 2) hg tk_593 tk_595 (gt_s 28 (by decide +kernel) (by decide +kernel)) tk_6 tk_596 (by decide +kernel) ⟨Nat.le_of_ble_eq_true rfl, Nat.le_of_ble_eq_true rfl⟩) (va_recv hK hP (ci := 3) (q0 := 0) rfl rfl) (y_pre hE hK hP hD hS hA [0, 1, 2, 3, 4, 5] rfl rfl) rfl rfl hl.1 rfl (lv_room (Nat.le_of_ble_eq_true rfl)) d_T_layItem_147 ⟨Nat.le_of_ble_eq_true rfl, Nat.le_of_ble_eq_true rfl⟩) hP hD hS hA [0, 1, 2, 3, 4, 5] rfl (fun _ _ _ _ _ _ hp => False.elim hp) (fun v9 w9 H locs hp hlw hP hD hS => ?_)
      obtain ⟨rfl, rfl⟩ := hp
      have hP : va_P (gD G) vwC (wTS G h dg ln ks (nx + 1) py (if (f nx) = 0 then false else true) by0 ((ou ++ preT fi) ++ (if (f nx) = 0 then wdL 8 else [40])) de (if (f nx) = 0 then bt else bt + 1) (if (f nx) = 0 then bk else upd bk (bt + 1) (nI 8)) (if (f nx) = 0 then (upd bn bt (bn bt - 1)) else upd (upd bn bt (bn bt - 1)) (bt + 1) (f nx)) u np no k c f o) H := hP
      have hD : va_D A (wTS G h dg ln ks (nx + 1) py (if (f nx) = 0 then false else true) by0 ((ou ++ preT fi) ++ (if (f nx) = 0 then wdL 8 else [40])) de (if (f nx) = 0 then bt else bt + 1) (if (f nx) = 0 then bk else upd bk (bt + 1) (nI 8)) (if (f nx) = 0 then (upd bn bt (bn bt - 1)) else upd (upd bn bt (bn bt - 1)) (bt + 1) (f nx)) u np no k c f o) := hD
      refine W.eq (g2 := F0 mm 150 ls []) rfl ?_
      refine lv_goto (tgt := 158) hx hb d_T_layItem_150 (by decide) ?_
      exact yr_v (ws := wTS G h dg ln ks (nx + 1) py (if (f nx) = 0 then false else true) by0 ((ou ++ preT fi) ++ (if (f nx) = 0 then wdL 8 else [40])) de (if (f nx) = 0 then bt else bt + 1) (if (f nx) = 0 then bk else upd bk (bt + 1) (nI 8)) (if (f nx) = 0 then (upd bn bt (bn bt - 1)) else upd (upd bn bt (bn bt - 1)) (bt + 1) (f nx)) u np no k c f o) hx hb hrt hlocks (⟨_, _, _, _, _, _, _, _, by first | (rw [wIt_c (by decide) hq5 hq4]; unfold bdW; rw [dec_if]) | (rw [wIt_m (by decide)]; unfold bdW; rw [dec_if]) | (rw [wIt_3]; unfold bdW; rw [dec_if]) | rw [wIt_d (by decide)], rfl, rfl⟩) rfl hK hP hD hS d_T_layItem_158
    · skip
      obtain ⟨hq1, hq2⟩ := hW2 (by decide)
      refine lv_tableIn (off := 84) (tgt := 122) hx hb d_T_layItem_38 (by decide) (by decide) rfl (by decide) ?_
      refine lv_aload_n hx hb d_T_layItem_122 rfl (lv_at hl 0 rfl) ?_
      refine lv_aload_n hx hb d_T_layItem_123 rfl (lv_at hl 0 rfl) ?_
      refine lv_aload_n hx hb d_T_layItem_124 rfl (lv_at hl 1 rfl) ?_
      refine y_call (y_runV (As := [.ref (u 0)]) (rest := [.ref (h 0)]) hx hb hml hown (c_T_takeNumber l G h dg ln ks nx py false by0 (ou ++ preT fi) de bt bk (upd bn bt (bn bt - 1)) u np no k c f o  (by omega) (by omega) (by omega) (by omega) (by omega)) (gV (n := 1) hg tk_589 tk_591 (gt_s 27 (by decide +kernel) (by decide +kernel)) tk_6 tk_592 (by decide +kernel) ⟨Nat.le_of_ble_eq_true rfl, Nat.le_of_ble_eq_true rfl⟩) (va_recv hK hP (ci := 3) (q0 := 0) rfl rfl) (y_pre hE hK hP hD hS hA [0, 1, 2, 3, 4, 5, 6, 7, 8] rfl rfl) rfl rfl hl.1 rfl (lv_room (Nat.le_of_ble_eq_true rfl)) d_T_layItem_125 ⟨Nat.le_of_ble_eq_true rfl, Nat.le_of_ble_eq_true rfl⟩) hP hD hS hA [0, 1, 2, 3, 4, 5, 6, 7, 8] rfl (fun _ _ _ _ _ _ hp => False.elim hp) (fun v9 w9 H locs hp hlw hP hD hS => ?_)
      obtain ⟨rfl, rfl⟩ := hp
      have hP : va_P (gD G) vwC (wTS G h dg ln ks (nx + 1) py false by0 (ou ++ preT fi) de bt bk (upd bn bt (bn bt - 1)) u np no k c f o) H := hP
      have hD : va_D A (wTS G h dg ln ks (nx + 1) py false by0 (ou ++ preT fi) de bt bk (upd bn bt (bn bt - 1)) u np no k c f o) := hD
      refine W.eq (g2 := F0 mm 128 ls [.int (f nx), .ref (h 0)]) rfl ?_
      refine lv_aload_n hx hb d_T_layItem_128 rfl (lv_at hl 0 rfl) ?_
      refine lv_aload_n hx hb d_T_layItem_129 rfl (lv_at hl 1 rfl) ?_
      refine y_call (y_runV (As := [.ref (u 0)]) (rest := [.int (f nx), .ref (h 0)]) hx hb hml hown (c_T_takeNumber l G h dg ln ks (nx + 1) py false by0 (ou ++ preT fi) de bt bk (upd bn bt (bn bt - 1)) u np no k c f o  (by omega) (by omega) (by omega) (by omega) (by omega)) (gV (n := 1) hg tk_589 tk_591 (gt_s 27 (by decide +kernel) (by decide +kernel)) tk_6 tk_592 (by decide +kernel) ⟨Nat.le_of_ble_eq_true rfl, Nat.le_of_ble_eq_true rfl⟩) (va_recv hK hP (ci := 3) (q0 := 0) rfl rfl) (y_pre hE hK hP hD hS hA [0, 1, 2, 3, 4, 5, 6, 7, 8] rfl rfl) rfl rfl hl.1 rfl (lv_room (Nat.le_of_ble_eq_true rfl)) d_T_layItem_130 ⟨Nat.le_of_ble_eq_true rfl, Nat.le_of_ble_eq_true rfl⟩) hP hD hS hA [0, 1, 2, 3, 4, 5, 6, 7, 8] rfl (fun _ _ _ _ _ _ hp => False.elim hp) (fun v9 w9 H locs hp hlw hP hD hS => ?_)
      obtain ⟨rfl, rfl⟩ := hp
      have hP : va_P (gD G) vwC (wTS G h dg ln ks ((nx + 1) + 1) py false by0 (ou ++ preT fi) de bt bk (upd bn bt (bn bt - 1)) u np no k c f o) H := hP
      have hD : va_D A (wTS G h dg ln ks ((nx + 1) + 1) py false by0 (ou ++ preT fi) de bt bk (upd bn bt (bn bt - 1)) u np no k c f o) := hD
      refine W.eq (g2 := F0 mm 133 ls [.int (f (nx + 1)), .int (f nx), .ref (h 0)]) rfl ?_
      refine y_call (y_runV (As := [.int (f nx), .int (f (nx + 1))]) (rest := []) hx hb hml hown (c_T_layBody l G h dg ln ks ((nx + 1) + 1) py false by0 (ou ++ preT fi) de bt bk (upd bn bt (bn bt - 1)) (f nx) (f (nx + 1)) (by simp only [List.length_append, List.length_singleton, List.length_cons, List.length_nil]; omega) (by omega)) (gV (n := 2) hg tk_593 tk_595 (gt_s 28 (by decide +kernel) (by decide +kernel)) tk_6 tk_596 (by decide +kernel) ⟨Nat.le_of_ble_eq_true rfl, Nat.le_of_ble_eq_true rfl⟩) (va_recv hK hP (ci := 3) (q0 := 0) rfl rfl) (y_pre hE hK hP hD hS hA [0, 1, 2, 3, 4, 5] rfl rfl) rfl rfl hl.1 rfl (lv_room (Nat.le_of_ble_eq_true rfl)) d_T_layItem_133 ⟨Nat.le_of_ble_eq_true rfl, Nat.le_of_ble_eq_true rfl⟩) hP hD hS hA [0, 1, 2, 3, 4, 5] rfl (fun _ _ _ _ _ _ hp => False.elim hp) (fun v9 w9 H locs hp hlw hP hD hS => ?_)
      obtain ⟨rfl, rfl⟩ := hp
      have hP : va_P (gD G) vwC (wTS G h dg ln ks ((nx + 1) + 1) py (if (f (nx + 1)) = 0 then false else true) by0 ((ou ++ preT fi) ++ (if (f (nx + 1)) = 0 then wdL 8 else [40])) de (if (f (nx + 1)) = 0 then bt else bt + 1) (if (f (nx + 1)) = 0 then bk else upd bk (bt + 1) (f nx)) (if (f (nx + 1)) = 0 then (upd bn bt (bn bt - 1)) else upd (upd bn bt (bn bt - 1)) (bt + 1) (f (nx + 1))) u np no k c f o) H := hP
      have hD : va_D A (wTS G h dg ln ks ((nx + 1) + 1) py (if (f (nx + 1)) = 0 then false else true) by0 ((ou ++ preT fi) ++ (if (f (nx + 1)) = 0 then wdL 8 else [40])) de (if (f (nx + 1)) = 0 then bt else bt + 1) (if (f (nx + 1)) = 0 then bk else upd bk (bt + 1) (f nx)) (if (f (nx + 1)) = 0 then (upd bn bt (bn bt - 1)) else upd (upd bn bt (bn bt - 1)) (bt + 1) (f (nx + 1))) u np no k c f o) := hD
      refine W.eq (g2 := F0 mm 136 ls []) rfl ?_
      refine lv_goto (tgt := 158) hx hb d_T_layItem_136 (by decide) ?_
      exact yr_v (ws := wTS G h dg ln ks ((nx + 1) + 1) py (if (f (nx + 1)) = 0 then false else true) by0 ((ou ++ preT fi) ++ (if (f (nx + 1)) = 0 then wdL 8 else [40])) de (if (f (nx + 1)) = 0 then bt else bt + 1) (if (f (nx + 1)) = 0 then bk else upd bk (bt + 1) (f nx)) (if (f (nx + 1)) = 0 then (upd bn bt (bn bt - 1)) else upd (upd bn bt (bn bt - 1)) (bt + 1) (f (nx + 1))) u np no k c f o) hx hb hrt hlocks (⟨_, _, _, _, _, _, _, _, by first | (rw [wIt_c (by decide) hq5 hq4]; unfold bdW; rw [dec_if]) | (rw [wIt_m (by decide)]; unfold bdW; rw [dec_if]) | (rw [wIt_3]; unfold bdW; rw [dec_if]) | rw [wIt_d (by decide)], rfl, rfl⟩) rfl hK hP hD hS d_T_layItem_158
    · skip
      obtain ⟨hq1, hq2⟩ := hW2 (by decide)
      refine lv_tableIn (off := 84) (tgt := 122) hx hb d_T_layItem_38 (by decide) (by decide) rfl (by decide) ?_
      refine lv_aload_n hx hb d_T_layItem_122 rfl (lv_at hl 0 rfl) ?_
      refine lv_aload_n hx hb d_T_layItem_123 rfl (lv_at hl 0 rfl) ?_
      refine lv_aload_n hx hb d_T_layItem_124 rfl (lv_at hl 1 rfl) ?_
      refine y_call (y_runV (As := [.ref (u 0)]) (rest := [.ref (h 0)]) hx hb hml hown (c_T_takeNumber l G h dg ln ks nx py false by0 (ou ++ preT fi) de bt bk (upd bn bt (bn bt - 1)) u np no k c f o  (by omega) (by omega) (by omega) (by omega) (by omega)) (gV (n := 1) hg tk_589 tk_591 (gt_s 27 (by decide +kernel) (by decide +kernel)) tk_6 tk_592 (by decide +kernel) ⟨Nat.le_of_ble_eq_true rfl, Nat.le_of_ble_eq_true rfl⟩) (va_recv hK hP (ci := 3) (q0 := 0) rfl rfl) (y_pre hE hK hP hD hS hA [0, 1, 2, 3, 4, 5, 6, 7, 8] rfl rfl) rfl rfl hl.1 rfl (lv_room (Nat.le_of_ble_eq_true rfl)) d_T_layItem_125 ⟨Nat.le_of_ble_eq_true rfl, Nat.le_of_ble_eq_true rfl⟩) hP hD hS hA [0, 1, 2, 3, 4, 5, 6, 7, 8] rfl (fun _ _ _ _ _ _ hp => False.elim hp) (fun v9 w9 H locs hp hlw hP hD hS => ?_)
      obtain ⟨rfl, rfl⟩ := hp
      have hP : va_P (gD G) vwC (wTS G h dg ln ks (nx + 1) py false by0 (ou ++ preT fi) de bt bk (upd bn bt (bn bt - 1)) u np no k c f o) H := hP
      have hD : va_D A (wTS G h dg ln ks (nx + 1) py false by0 (ou ++ preT fi) de bt bk (upd bn bt (bn bt - 1)) u np no k c f o) := hD
      refine W.eq (g2 := F0 mm 128 ls [.int (f nx), .ref (h 0)]) rfl ?_
      refine lv_aload_n hx hb d_T_layItem_128 rfl (lv_at hl 0 rfl) ?_
      refine lv_aload_n hx hb d_T_layItem_129 rfl (lv_at hl 1 rfl) ?_
      refine y_call (y_runV (As := [.ref (u 0)]) (rest := [.int (f nx), .ref (h 0)]) hx hb hml hown (c_T_takeNumber l G h dg ln ks (nx + 1) py false by0 (ou ++ preT fi) de bt bk (upd bn bt (bn bt - 1)) u np no k c f o  (by omega) (by omega) (by omega) (by omega) (by omega)) (gV (n := 1) hg tk_589 tk_591 (gt_s 27 (by decide +kernel) (by decide +kernel)) tk_6 tk_592 (by decide +kernel) ⟨Nat.le_of_ble_eq_true rfl, Nat.le_of_ble_eq_true rfl⟩) (va_recv hK hP (ci := 3) (q0 := 0) rfl rfl) (y_pre hE hK hP hD hS hA [0, 1, 2, 3, 4, 5, 6, 7, 8] rfl rfl) rfl rfl hl.1 rfl (lv_room (Nat.le_of_ble_eq_true rfl)) d_T_layItem_130 ⟨Nat.le_of_ble_eq_true rfl, Nat.le_of_ble_eq_true rfl⟩) hP hD hS hA [0, 1, 2, 3, 4, 5, 6, 7, 8] rfl (fun _ _ _ _ _ _ hp => False.elim hp) (fun v9 w9 H locs hp hlw hP hD hS => ?_)
      obtain ⟨rfl, rfl⟩ := hp
      have hP : va_P (gD G) vwC (wTS G h dg ln ks ((nx + 1) + 1) py false by0 (ou ++ preT fi) de bt bk (upd bn bt (bn bt - 1)) u np no k c f o) H := hP
      have hD : va_D A (wTS G h dg ln ks ((nx + 1) + 1) py false by0 (ou ++ preT fi) de bt bk (upd bn bt (bn bt - 1)) u np no k c f o) := hD
      refine W.eq (g2 := F0 mm 133 ls [.int (f (nx + 1)), .int (f nx), .ref (h 0)]) rfl ?_
      refine y_call (y_runV (As := [.int (f nx), .int (f (nx + 1))]) (rest := []) hx hb hml hown (c_T_layBody l G h dg ln ks ((nx + 1) + 1) py false by0 (ou ++ preT fi) de bt bk (upd bn bt (bn bt - 1)) (f nx) (f (nx + 1)) (by simp only [List.length_append, List.length_singleton, List.length_cons, List.length_nil]; omega) (by omega)) (gV (n := 2) hg tk_593 tk_595 (gt_s 28 (by decide +kernel) (by decide +kernel)) tk_6 tk_596 (by decide +kernel) ⟨Nat.le_of_ble_eq_true rfl, Nat.le_of_ble_eq_true rfl⟩) (va_recv hK hP (ci := 3) (q0 := 0) rfl rfl) (y_pre hE hK hP hD hS hA [0, 1, 2, 3, 4, 5] rfl rfl) rfl rfl hl.1 rfl (lv_room (Nat.le_of_ble_eq_true rfl)) d_T_layItem_133 ⟨Nat.le_of_ble_eq_true rfl, Nat.le_of_ble_eq_true rfl⟩) hP hD hS hA [0, 1, 2, 3, 4, 5] rfl (fun _ _ _ _ _ _ hp => False.elim hp) (fun v9 w9 H locs hp hlw hP hD hS => ?_)
      obtain ⟨rfl, rfl⟩ := hp
      have hP : va_P (gD G) vwC (wTS G h dg ln ks ((nx + 1) + 1) py (if (f (nx + 1)) = 0 then false else true) by0 ((ou ++ preT fi) ++ (if (f (nx + 1)) = 0 then wdL 8 else [40])) de (if (f (nx + 1)) = 0 then bt else bt + 1) (if (f (nx + 1)) = 0 then bk else upd bk (bt + 1) (f nx)) (if (f (nx + 1)) = 0 then (upd bn bt (bn bt - 1)) else upd (upd bn bt (bn bt - 1)) (bt + 1) (f (nx + 1))) u np no k c f o) H := hP
      have hD : va_D A (wTS G h dg ln ks ((nx + 1) + 1) py (if (f (nx + 1)) = 0 then false else true) by0 ((ou ++ preT fi) ++ (if (f (nx + 1)) = 0 then wdL 8 else [40])) de (if (f (nx + 1)) = 0 then bt else bt + 1) (if (f (nx + 1)) = 0 then bk else upd bk (bt + 1) (f nx)) (if (f (nx + 1)) = 0 then (upd bn bt (bn bt - 1)) else upd (upd bn bt (bn bt - 1)) (bt + 1) (f (nx + 1))) u np no k c f o) := hD
      refine W.eq (g2 := F0 mm 136 ls []) rfl ?_
      refine lv_goto (tgt := 158) hx hb d_T_layItem_136 (by decide) ?_
      exact yr_v (ws := wTS G h dg ln ks ((nx + 1) + 1) py (if (f (nx + 1)) = 0 then false else true) by0 ((ou ++ preT fi) ++ (if (f (nx + 1)) = 0 then wdL 8 else [40])) de (if (f (nx + 1)) = 0 then bt else bt + 1) (if (f (nx + 1)) = 0 then bk else upd bk (bt + 1) (f nx)) (if (f (nx + 1)) = 0 then (upd bn bt (bn bt - 1)) else upd (upd bn bt (bn bt - 1)) (bt + 1) (f (nx + 1))) u np no k c f o) hx hb hrt hlocks (⟨_, _, _, _, _, _, _, _, by first | (rw [wIt_c (by decide) hq5 hq4]; unfold bdW; rw [dec_if]) | (rw [wIt_m (by decide)]; unfold bdW; rw [dec_if]) | (rw [wIt_3]; unfold bdW; rw [dec_if]) | rw [wIt_d (by decide)], rfl, rfl⟩) rfl hK hP hD hS d_T_layItem_158
    · skip
      obtain ⟨hq1, hq2⟩ := hW2 (by decide)
      refine lv_tableIn (off := 84) (tgt := 122) hx hb d_T_layItem_38 (by decide) (by decide) rfl (by decide) ?_
      refine lv_aload_n hx hb d_T_layItem_122 rfl (lv_at hl 0 rfl) ?_
      refine lv_aload_n hx hb d_T_layItem_123 rfl (lv_at hl 0 rfl) ?_
      refine lv_aload_n hx hb d_T_layItem_124 rfl (lv_at hl 1 rfl) ?_
      refine y_call (y_runV (As := [.ref (u 0)]) (rest := [.ref (h 0)]) hx hb hml hown (c_T_takeNumber l G h dg ln ks nx py false by0 (ou ++ preT fi) de bt bk (upd bn bt (bn bt - 1)) u np no k c f o  (by omega) (by omega) (by omega) (by omega) (by omega)) (gV (n := 1) hg tk_589 tk_591 (gt_s 27 (by decide +kernel) (by decide +kernel)) tk_6 tk_592 (by decide +kernel) ⟨Nat.le_of_ble_eq_true rfl, Nat.le_of_ble_eq_true rfl⟩) (va_recv hK hP (ci := 3) (q0 := 0) rfl rfl) (y_pre hE hK hP hD hS hA [0, 1, 2, 3, 4, 5, 6, 7, 8] rfl rfl) rfl rfl hl.1 rfl (lv_room (Nat.le_of_ble_eq_true rfl)) d_T_layItem_125 ⟨Nat.le_of_ble_eq_true rfl, Nat.le_of_ble_eq_true rfl⟩) hP hD hS hA [0, 1, 2, 3, 4, 5, 6, 7, 8] rfl (fun _ _ _ _ _ _ hp => False.elim hp) (fun v9 w9 H locs hp hlw hP hD hS => ?_)
      obtain ⟨rfl, rfl⟩ := hp
      have hP : va_P (gD G) vwC (wTS G h dg ln ks (nx + 1) py false by0 (ou ++ preT fi) de bt bk (upd bn bt (bn bt - 1)) u np no k c f o) H := hP
      have hD : va_D A (wTS G h dg ln ks (nx + 1) py false by0 (ou ++ preT fi) de bt bk (upd bn bt (bn bt - 1)) u np no k c f o) := hD
      refine W.eq (g2 := F0 mm 128 ls [.int (f nx), .ref (h 0)]) rfl ?_
      refine lv_aload_n hx hb d_T_layItem_128 rfl (lv_at hl 0 rfl) ?_
      refine lv_aload_n hx hb d_T_layItem_129 rfl (lv_at hl 1 rfl) ?_
      refine y_call (y_runV (As := [.ref (u 0)]) (rest := [.int (f nx), .ref (h 0)]) hx hb hml hown (c_T_takeNumber l G h dg ln ks (nx + 1) py false by0 (ou ++ preT fi) de bt bk (upd bn bt (bn bt - 1)) u np no k c f o  (by omega) (by omega) (by omega) (by omega) (by omega)) (gV (n := 1) hg tk_589 tk_591 (gt_s 27 (by decide +kernel) (by decide +kernel)) tk_6 tk_592 (by decide +kernel) ⟨Nat.le_of_ble_eq_true rfl, Nat.le_of_ble_eq_true rfl⟩) (va_recv hK hP (ci := 3) (q0 := 0) rfl rfl) (y_pre hE hK hP hD hS hA [0, 1, 2, 3, 4, 5, 6, 7, 8] rfl rfl) rfl rfl hl.1 rfl (lv_room (Nat.le_of_ble_eq_true rfl)) d_T_layItem_130 ⟨Nat.le_of_ble_eq_true rfl, Nat.le_of_ble_eq_true rfl⟩) hP hD hS hA [0, 1, 2, 3, 4, 5, 6, 7, 8] rfl (fun _ _ _ _ _ _ hp => False.elim hp) (fun v9 w9 H locs hp hlw hP hD hS => ?_)
      obtain ⟨rfl, rfl⟩ := hp
      have hP : va_P (gD G) vwC (wTS G h dg ln ks ((nx + 1) + 1) py false by0 (ou ++ preT fi) de bt bk (upd bn bt (bn bt - 1)) u np no k c f o) H := hP
      have hD : va_D A (wTS G h dg ln ks ((nx + 1) + 1) py false by0 (ou ++ preT fi) de bt bk (upd bn bt (bn bt - 1)) u np no k c f o) := hD
      refine W.eq (g2 := F0 mm 133 ls [.int (f (nx + 1)), .int (f nx), .ref (h 0)]) rfl ?_
      refine y_call (y_runV (As := [.int (f nx), .int (f (nx + 1))]) (rest := []) hx hb hml hown (c_T_layBody l G h dg ln ks ((nx + 1) + 1) py false by0 (ou ++ preT fi) de bt bk (upd bn bt (bn bt - 1)) (f nx) (f (nx + 1)) (by simp only [List.length_append, List.length_singleton, List.length_cons, List.length_nil]; omega) (by omega)) (gV (n := 2) hg tk_593 tk_595 (gt_s 28 (by decide +kernel) (by decide +kernel)) tk_6 tk_596 (by decide +kernel) ⟨Nat.le_of_ble_eq_true rfl, Nat.le_of_ble_eq_true rfl⟩) (va_recv hK hP (ci := 3) (q0 := 0) rfl rfl) (y_pre hE hK hP hD hS hA [0, 1, 2, 3, 4, 5] rfl rfl) rfl rfl hl.1 rfl (lv_room (Nat.le_of_ble_eq_true rfl)) d_T_layItem_133 ⟨Nat.le_of_ble_eq_true rfl, Nat.le_of_ble_eq_true rfl⟩) hP hD hS hA [0, 1, 2, 3, 4, 5] rfl (fun _ _ _ _ _ _ hp => False.elim hp) (fun v9 w9 H locs hp hlw hP hD hS => ?_)
      obtain ⟨rfl, rfl⟩ := hp
      have hP : va_P (gD G) vwC (wTS G h dg ln ks ((nx + 1) + 1) py (if (f (nx + 1)) = 0 then false else true) by0 ((ou ++ preT fi) ++ (if (f (nx + 1)) = 0 then wdL 8 else [40])) de (if (f (nx + 1)) = 0 then bt else bt + 1) (if (f (nx + 1)) = 0 then bk else upd bk (bt + 1) (f nx)) (if (f (nx + 1)) = 0 then (upd bn bt (bn bt - 1)) else upd (upd bn bt (bn bt - 1)) (bt + 1) (f (nx + 1))) u np no k c f o) H := hP
      have hD : va_D A (wTS G h dg ln ks ((nx + 1) + 1) py (if (f (nx + 1)) = 0 then false else true) by0 ((ou ++ preT fi) ++ (if (f (nx + 1)) = 0 then wdL 8 else [40])) de (if (f (nx + 1)) = 0 then bt else bt + 1) (if (f (nx + 1)) = 0 then bk else upd bk (bt + 1) (f nx)) (if (f (nx + 1)) = 0 then (upd bn bt (bn bt - 1)) else upd (upd bn bt (bn bt - 1)) (bt + 1) (f (nx + 1))) u np no k c f o) := hD
      refine W.eq (g2 := F0 mm 136 ls []) rfl ?_
      refine lv_goto (tgt := 158) hx hb d_T_layItem_136 (by decide) ?_
      exact yr_v (ws := wTS G h dg ln ks ((nx + 1) + 1) py (if (f (nx + 1)) = 0 then false else true) by0 ((ou ++ preT fi) ++ (if (f (nx + 1)) = 0 then wdL 8 else [40])) de (if (f (nx + 1)) = 0 then bt else bt + 1) (if (f (nx + 1)) = 0 then bk else upd bk (bt + 1) (f nx)) (if (f (nx + 1)) = 0 then (upd bn bt (bn bt - 1)) else upd (upd bn bt (bn bt - 1)) (bt + 1) (f (nx + 1))) u np no k c f o) hx hb hrt hlocks (⟨_, _, _, _, _, _, _, _, by first | (rw [wIt_c (by decide) hq5 hq4]; unfold bdW; rw [dec_if]) | (rw [wIt_m (by decide)]; unfold bdW; rw [dec_if]) | (rw [wIt_3]; unfold bdW; rw [dec_if]) | rw [wIt_d (by decide)], rfl, rfl⟩) rfl hK hP hD hS d_T_layItem_158
    · skip
      obtain ⟨hq1, hq2, kd, hq3, hq4, hq5⟩ := hW1 (by decide)
      refine lv_tableIn (off := 46) (tgt := 84) hx hb d_T_layItem_38 (by decide) (by decide) rfl (by decide) ?_
      refine lv_aload_n hx hb d_T_layItem_84 rfl (lv_at hl 0 rfl) ?_
      refine lv_aload_n hx hb d_T_layItem_85 rfl (lv_at hl 1 rfl) ?_
      refine lv_aload_n hx hb d_T_layItem_86 rfl (lv_at hl 0 rfl) ?_
      refine va_get (D := gD G) (ci := 3) (v := .int (nI nx)) (C := "WordShapes$Writer") (T := TT) (N := 10) hx hb hg iw_T hown hK hP 0 rfl rfl 7 (by decide) (hg _ tk_131) (fun _ h9 => h9) rfl d_T_layItem_87 ?_
      refine y_call (y_runV (As := [.int (nI nx)]) (rest := [.ref (h 0)]) hx hb hml hown (c_S_numberAt l G u np no k c f o nx (by omega) (by omega) (by omega)) (gV (n := 1) hg tk_581 tk_538 tk_539 tk_3 tk_540 (by decide +kernel) ⟨Nat.le_of_ble_eq_true rfl, Nat.le_of_ble_eq_true rfl⟩) (va_recv hK hP (ci := 2) (q0 := 6) rfl rfl) (y_pre hE hK hP hD hS hA [6, 7, 8] rfl rfl) rfl rfl hl.1 rfl (lv_room (Nat.le_of_ble_eq_true rfl)) d_T_layItem_90 ⟨Nat.le_of_ble_eq_true rfl, Nat.le_of_ble_eq_true rfl⟩) hP hD hS hA [6, 7, 8] rfl (fun _ _ _ _ _ _ hp => False.elim hp) (fun v9 w9 H locs hp hlw hP hD hS => ?_)
      obtain ⟨rfl, rfl⟩ := hp
      have hP : va_P (gD G) vwC (wTS G h dg ln ks nx py false by0 (ou ++ preT fi) de bt bk (upd bn bt (bn bt - 1)) u np no k c f o) H := hP
      have hD : va_D A (wTS G h dg ln ks nx py false by0 (ou ++ preT fi) de bt bk (upd bn bt (bn bt - 1)) u np no k c f o) := hD
      refine W.eq (g2 := F0 mm 93 ls [.int (if nx < k then f nx else 0), .ref (h 0)]) rfl ?_
      refine y_eqi (y := f nx) (if_pos (by omega)) ?_
      refine y_eqi (y := nI kd) hq5 ?_
      refine y_call (y_runSN (As := [.int (nI kd)]) (rest := [.ref (h 0)]) hx hb hml hown (c_W_wordOf l G  kd (by omega) (by omega)) (gSN (n := 1) hg (nw_582 hE.1) tk_386 tk_1 tk_387 (by decide +kernel) ⟨Nat.le_of_ble_eq_true rfl, Nat.le_of_ble_eq_true rfl⟩) (y_pre hE hK hP hD hS hA [] rfl rfl) rfl rfl hl.1 rfl (lv_room (Nat.le_of_ble_eq_true rfl)) d_T_layItem_93 ⟨Nat.le_of_ble_eq_true rfl, Nat.le_of_ble_eq_true rfl⟩) hP hD hS hA [] rfl (fun _ _ _ _ _ _ hp => False.elim hp) (fun v9 w9 H locs hp hlw hP hD hS => ?_)
      obtain ⟨rfl, rfl⟩ := hp
      have hP : va_P (gD G) vwC (wTS G h dg ln ks nx py false by0 (ou ++ preT fi) de bt bk (upd bn bt (bn bt - 1)) u np no k c f o) H := hP
      have hD : va_D A (wTS G h dg ln ks nx py false by0 (ou ++ preT fi) de bt bk (upd bn bt (bn bt - 1)) u np no k c f o) := hD
      refine W.eq (g2 := F0 mm 96 ls [.ref (gs G (kd + 4)), .ref (h 0)]) rfl ?_
      refine y_call (y_runV (As := [.ref (gs G (kd + 4))]) (rest := []) hx hb hml hown (c_T_layWord l G h dg ln ks nx py false by0 (ou ++ preT fi) de bt bk (upd bn bt (bn bt - 1)) (gs G (kd + 4)) (gv G (kd + 4)) kd (by simp only [List.length_append, List.length_singleton, List.length_cons, List.length_nil]; omega) (str_w hq3 hq4)) (gV (n := 1) hg tk_583 tk_585 (gt_s 26 (by decide +kernel) (by decide +kernel)) tk_6 tk_586 (by decide +kernel) ⟨Nat.le_of_ble_eq_true rfl, Nat.le_of_ble_eq_true rfl⟩) (va_recv hK hP (ci := 3) (q0 := 0) rfl rfl) (y_pre hE hK hP hD hS hA [0, 1, 2, 3, 4, 5] rfl rfl) rfl rfl hl.1 rfl (lv_room (Nat.le_of_ble_eq_true rfl)) d_T_layItem_96 ⟨Nat.le_of_ble_eq_true rfl, Nat.le_of_ble_eq_true rfl⟩) hP hD hS hA [0, 1, 2, 3, 4, 5] rfl (fun _ _ _ _ _ _ hp => False.elim hp) (fun v9 w9 H locs hp hlw hP hD hS => ?_)
      obtain ⟨rfl, rfl⟩ := hp
      have hP : va_P (gD G) vwC (wTS G h dg ln ks nx py false by0 ((ou ++ preT fi) ++ wdL kd) de bt bk (upd bn bt (bn bt - 1)) u np no k c f o) H := hP
      have hD : va_D A (wTS G h dg ln ks nx py false by0 ((ou ++ preT fi) ++ wdL kd) de bt bk (upd bn bt (bn bt - 1)) u np no k c f o) := hD
      refine W.eq (g2 := F0 mm 99 ls []) rfl ?_
      refine lv_aload_n hx hb d_T_layItem_99 rfl (lv_at hl 0 rfl) ?_
      refine lv_bipush (v := nI 32) hx hb d_T_layItem_100 (by decide) ?_
      refine y_call (y_runV (As := [.int (nI 32)]) (rest := []) hx hb hml hown (c_T_put l G h dg ln ks nx py false by0 ((ou ++ preT fi) ++ wdL kd) de bt bk (upd bn bt (bn bt - 1)) 32 (by have := wdL_len kd; simp only [List.length_append, List.length_singleton, List.length_cons, List.length_nil]; omega)) (gV (n := 1) hg tk_572 tk_574 (gt_s 25 (by decide +kernel) (by decide +kernel)) tk_6 tk_575 (by decide +kernel) ⟨Nat.le_of_ble_eq_true rfl, Nat.le_of_ble_eq_true rfl⟩) (va_recv hK hP (ci := 3) (q0 := 0) rfl rfl) (y_pre hE hK hP hD hS hA [0, 1, 2, 3, 4, 5] rfl rfl) rfl rfl hl.1 rfl (lv_room (Nat.le_of_ble_eq_true rfl)) d_T_layItem_102 ⟨Nat.le_of_ble_eq_true rfl, Nat.le_of_ble_eq_true rfl⟩) hP hD hS hA [0, 1, 2, 3, 4, 5] rfl (fun _ _ _ _ _ _ hp => False.elim hp) (fun v9 w9 H locs hp hlw hP hD hS => ?_)
      obtain ⟨rfl, rfl⟩ := hp
      have hP : va_P (gD G) vwC (wTS G h dg ln ks nx py false by0 (((ou ++ preT fi) ++ wdL kd) ++ [32]) de bt bk (upd bn bt (bn bt - 1)) u np no k c f o) H := hP
      have hD : va_D A (wTS G h dg ln ks nx py false by0 (((ou ++ preT fi) ++ wdL kd) ++ [32]) de bt bk (upd bn bt (bn bt - 1)) u np no k c f o) := hD
      refine W.eq (g2 := F0 mm 105 ls []) rfl ?_
      refine lv_aload_n hx hb d_T_layItem_105 rfl (lv_at hl 0 rfl) ?_
      refine lv_aload_n hx hb d_T_layItem_106 rfl (lv_at hl 0 rfl) ?_
      refine lv_aload_n hx hb d_T_layItem_107 rfl (lv_at hl 1 rfl) ?_
      refine y_call (y_runV (As := [.ref (u 0)]) (rest := [.ref (h 0)]) hx hb hml hown (c_T_takeNumber l G h dg ln ks nx py false by0 (((ou ++ preT fi) ++ wdL kd) ++ [32]) de bt bk (upd bn bt (bn bt - 1)) u np no k c f o  (by omega) (by omega) (by omega) (by omega) (by omega)) (gV (n := 1) hg tk_589 tk_591 (gt_s 27 (by decide +kernel) (by decide +kernel)) tk_6 tk_592 (by decide +kernel) ⟨Nat.le_of_ble_eq_true rfl, Nat.le_of_ble_eq_true rfl⟩) (va_recv hK hP (ci := 3) (q0 := 0) rfl rfl) (y_pre hE hK hP hD hS hA [0, 1, 2, 3, 4, 5, 6, 7, 8] rfl rfl) rfl rfl hl.1 rfl (lv_room (Nat.le_of_ble_eq_true rfl)) d_T_layItem_108 ⟨Nat.le_of_ble_eq_true rfl, Nat.le_of_ble_eq_true rfl⟩) hP hD hS hA [0, 1, 2, 3, 4, 5, 6, 7, 8] rfl (fun _ _ _ _ _ _ hp => False.elim hp) (fun v9 w9 H locs hp hlw hP hD hS => ?_)
      obtain ⟨rfl, rfl⟩ := hp
      have hP : va_P (gD G) vwC (wTS G h dg ln ks (nx + 1) py false by0 (((ou ++ preT fi) ++ wdL kd) ++ [32]) de bt bk (upd bn bt (bn bt - 1)) u np no k c f o) H := hP
      have hD : va_D A (wTS G h dg ln ks (nx + 1) py false by0 (((ou ++ preT fi) ++ wdL kd) ++ [32]) de bt bk (upd bn bt (bn bt - 1)) u np no k c f o) := hD
      refine W.eq (g2 := F0 mm 111 ls [.int (f nx), .ref (h 0)]) rfl ?_
      refine y_eqi (y := nI kd) hq5 ?_
      refine lv_aload_n hx hb d_T_layItem_111 rfl (lv_at hl 0 rfl) ?_
      refine lv_aload_n hx hb d_T_layItem_112 rfl (lv_at hl 1 rfl) ?_
      refine y_call (y_runV (As := [.ref (u 0)]) (rest := [.int (nI kd), .ref (h 0)]) hx hb hml hown (c_T_takeNumber l G h dg ln ks (nx + 1) py false by0 (((ou ++ preT fi) ++ wdL kd) ++ [32]) de bt bk (upd bn bt (bn bt - 1)) u np no k c f o  (by omega) (by omega) (by omega) (by omega) (by omega)) (gV (n := 1) hg tk_589 tk_591 (gt_s 27 (by decide +kernel) (by decide +kernel)) tk_6 tk_592 (by decide +kernel) ⟨Nat.le_of_ble_eq_true rfl, Nat.le_of_ble_eq_true rfl⟩) (va_recv hK hP (ci := 3) (q0 := 0) rfl rfl) (y_pre hE hK hP hD hS hA [0, 1, 2, 3, 4, 5, 6, 7, 8] rfl rfl) rfl rfl hl.1 rfl (lv_room (Nat.le_of_ble_eq_true rfl)) d_T_layItem_113 ⟨Nat.le_of_ble_eq_true rfl, Nat.le_of_ble_eq_true rfl⟩) hP hD hS hA [0, 1, 2, 3, 4, 5, 6, 7, 8] rfl (fun _ _ _ _ _ _ hp => False.elim hp) (fun v9 w9 H locs hp hlw hP hD hS => ?_)
      obtain ⟨rfl, rfl⟩ := hp
      have hP : va_P (gD G) vwC (wTS G h dg ln ks ((nx + 1) + 1) py false by0 (((ou ++ preT fi) ++ wdL kd) ++ [32]) de bt bk (upd bn bt (bn bt - 1)) u np no k c f o) H := hP
      have hD : va_D A (wTS G h dg ln ks ((nx + 1) + 1) py false by0 (((ou ++ preT fi) ++ wdL kd) ++ [32]) de bt bk (upd bn bt (bn bt - 1)) u np no k c f o) := hD
      refine W.eq (g2 := F0 mm 116 ls [.int (f (nx + 1)), .int (nI kd), .ref (h 0)]) rfl ?_
      refine y_call (y_runV (As := [.int (nI kd), .int (f (nx + 1))]) (rest := []) hx hb hml hown (c_T_layBody l G h dg ln ks ((nx + 1) + 1) py false by0 (((ou ++ preT fi) ++ wdL kd) ++ [32]) de bt bk (upd bn bt (bn bt - 1)) (nI kd) (f (nx + 1)) (by have := wdL_len kd; simp only [List.length_append, List.length_singleton, List.length_cons, List.length_nil]; omega) (by omega)) (gV (n := 2) hg tk_593 tk_595 (gt_s 28 (by decide +kernel) (by decide +kernel)) tk_6 tk_596 (by decide +kernel) ⟨Nat.le_of_ble_eq_true rfl, Nat.le_of_ble_eq_true rfl⟩) (va_recv hK hP (ci := 3) (q0 := 0) rfl rfl) (y_pre hE hK hP hD hS hA [0, 1, 2, 3, 4, 5] rfl rfl) rfl rfl hl.1 rfl (lv_room (Nat.le_of_ble_eq_true rfl)) d_T_layItem_116 ⟨Nat.le_of_ble_eq_true rfl, Nat.le_of_ble_eq_true rfl⟩) hP hD hS hA [0, 1, 2, 3, 4, 5] rfl (fun _ _ _ _ _ _ hp => False.elim hp) (fun v9 w9 H locs hp hlw hP hD hS => ?_)
      obtain ⟨rfl, rfl⟩ := hp
      have hP : va_P (gD G) vwC (wTS G h dg ln ks ((nx + 1) + 1) py (if (f (nx + 1)) = 0 then false else true) by0 ((((ou ++ preT fi) ++ wdL kd) ++ [32]) ++ (if (f (nx + 1)) = 0 then wdL 8 else [40])) de (if (f (nx + 1)) = 0 then bt else bt + 1) (if (f (nx + 1)) = 0 then bk else upd bk (bt + 1) (nI kd)) (if (f (nx + 1)) = 0 then (upd bn bt (bn bt - 1)) else upd (upd bn bt (bn bt - 1)) (bt + 1) (f (nx + 1))) u np no k c f o) H := hP
      have hD : va_D A (wTS G h dg ln ks ((nx + 1) + 1) py (if (f (nx + 1)) = 0 then false else true) by0 ((((ou ++ preT fi) ++ wdL kd) ++ [32]) ++ (if (f (nx + 1)) = 0 then wdL 8 else [40])) de (if (f (nx + 1)) = 0 then bt else bt + 1) (if (f (nx + 1)) = 0 then bk else upd bk (bt + 1) (nI kd)) (if (f (nx + 1)) = 0 then (upd bn bt (bn bt - 1)) else upd (upd bn bt (bn bt - 1)) (bt + 1) (f (nx + 1))) u np no k c f o) := hD
      refine W.eq (g2 := F0 mm 119 ls []) rfl ?_
      refine lv_goto (tgt := 158) hx hb d_T_layItem_119 (by decide) ?_
      exact yr_v (ws := wTS G h dg ln ks ((nx + 1) + 1) py (if (f (nx + 1)) = 0 then false else true) by0 ((((ou ++ preT fi) ++ wdL kd) ++ [32]) ++ (if (f (nx + 1)) = 0 then wdL 8 else [40])) de (if (f (nx + 1)) = 0 then bt else bt + 1) (if (f (nx + 1)) = 0 then bk else upd bk (bt + 1) (nI kd)) (if (f (nx + 1)) = 0 then (upd bn bt (bn bt - 1)) else upd (upd bn bt (bn bt - 1)) (bt + 1) (f (nx + 1))) u np no k c f o) hx hb hrt hlocks (⟨_, _, _, _, _, _, _, _, by first | (rw [wIt_c (by decide) hq5 hq4]; unfold bdW; rw [dec_if]) | (rw [wIt_m (by decide)]; unfold bdW; rw [dec_if]) | (rw [wIt_3]; unfold bdW; rw [dec_if]) | rw [wIt_d (by decide)], rfl, rfl⟩) rfl hK hP hD hS d_T_layItem_158
    · skip
      obtain ⟨hq1, hq2, hq3⟩ := hW4 (by decide)
      refine lv_tableOut (tgt := 153) hx hb d_T_layItem_38 (by decide) (by decide) ?_
      refine lv_aload_n hx hb d_T_layItem_153 rfl (lv_at hl 0 rfl) ?_
      refine lv_aload_n hx hb d_T_layItem_154 rfl (lv_at hl 1 rfl) ?_
      refine y_call (y_runV (As := [.ref (u 0)]) (rest := []) hx hb hml hown (c_T_layPoint l G h dg ln ks nx py false by0 (ou ++ preT fi) de bt bk (upd bn bt (bn bt - 1)) u np no k c f o  (by omega) (by omega) (by omega) (by omega) (by simp only [List.length_append, List.length_singleton, List.length_cons, List.length_nil]; omega) (by omega) (by omega) (hq2) (hq3)) (gV (n := 1) hg tk_599 tk_601 (gt_s 29 (by decide +kernel) (by decide +kernel)) tk_6 tk_602 (by decide +kernel) ⟨Nat.le_of_ble_eq_true rfl, Nat.le_of_ble_eq_true rfl⟩) (va_recv hK hP (ci := 3) (q0 := 0) rfl rfl) (y_pre hE hK hP hD hS hA [0, 1, 2, 3, 4, 5, 6, 7, 8] rfl rfl) rfl rfl hl.1 rfl (lv_room (Nat.le_of_ble_eq_true rfl)) d_T_layItem_155 ⟨Nat.le_of_ble_eq_true rfl, Nat.le_of_ble_eq_true rfl⟩) hP hD hS hA [0, 1, 2, 3, 4, 5, 6, 7, 8] rfl (fun _ _ _ _ _ _ hp => False.elim hp) (fun v9 w9 H locs hp hlw hP hD hS => ?_)
      obtain ⟨de9_155, rfl, rfl⟩ := hp
      have hP : va_P (gD G) vwC (wTS G h dg ln ks nx (py + 1) false by0 ((ou ++ preT fi) ++ ptT dg o py) de9_155 bt bk (upd bn bt (bn bt - 1)) u np no k c f o) H := hP
      have hD : va_D A (wTS G h dg ln ks nx (py + 1) false by0 ((ou ++ preT fi) ++ ptT dg o py) de9_155 bt bk (upd bn bt (bn bt - 1)) u np no k c f o) := hD
      refine W.eq (g2 := F0 mm 158 ls []) rfl ?_
      exact yr_v (ws := wTS G h dg ln ks nx (py + 1) false by0 ((ou ++ preT fi) ++ ptT dg o py) de9_155 bt bk (upd bn bt (bn bt - 1)) u np no k c f o) hx hb hrt hlocks (⟨_, _, _, _, _, _, _, _, by first | (rw [wIt_c (by decide) hq5 hq4]; unfold bdW; rw [dec_if]) | (rw [wIt_m (by decide)]; unfold bdW; rw [dec_if]) | (rw [wIt_3]; unfold bdW; rw [dec_if]) | rw [wIt_d (by decide)], rfl, rfl⟩) rfl hK hP hD hS d_T_layItem_158
  refine lv_aload_n hx hb d_T_layItem_0 rfl (lv_at hl 0 rfl) ?_
  refine va_get (D := gD G) (ci := 3) (v := .int (bz fi)) (C := "WordShapes$Writer") (T := TT) (N := 10) hx hb hg iw_T hown hK hP 0 rfl rfl 9 (by decide) (hg _ tk_133) (fun _ h9 => h9) rfl d_T_layItem_1 ?_
  refine yy_if_ne (P := fi) (tgt := 19) hx hb d_T_layItem_4 (by decide) (fun c4 => ?_) (fun c4 => ?_)
  · skip
    subst c4
    rw [← List.append_nil ou] at hP hD
    exact J19   _ _ _ hP hD hS (lv_sub hl [0, 1] (rfl))
  · skip
    subst c4
    refine lv_aload_n hx hb d_T_layItem_7 rfl (lv_at hl 0 rfl) ?_
    refine lv_bipush (v := nI 44) hx hb d_T_layItem_8 (by decide) ?_
    refine y_call (y_runV (As := [.int (nI 44)]) (rest := []) hx hb hml hown (c_T_put l G h dg ln ks nx py false by0 ou de bt bk bn 44 (by omega)) (gV (n := 1) hg tk_572 tk_574 (gt_s 25 (by decide +kernel) (by decide +kernel)) tk_6 tk_575 (by decide +kernel) ⟨Nat.le_of_ble_eq_true rfl, Nat.le_of_ble_eq_true rfl⟩) (va_recv hK hP (ci := 3) (q0 := 0) rfl rfl) (y_pre hE hK hP hD hS hA [0, 1, 2, 3, 4, 5] rfl rfl) rfl rfl hl.1 rfl (lv_room (Nat.le_of_ble_eq_true rfl)) d_T_layItem_10 ⟨Nat.le_of_ble_eq_true rfl, Nat.le_of_ble_eq_true rfl⟩) hP hD hS hA [0, 1, 2, 3, 4, 5] rfl (fun _ _ _ _ _ _ hp => False.elim hp) (fun v9 w9 H locs hp hlw hP hD hS => ?_)
    obtain ⟨rfl, rfl⟩ := hp
    have hP : va_P (gD G) vwC (wTS G h dg ln ks nx py false by0 (ou ++ [44]) de bt bk bn u np no k c f o) H := hP
    have hD : va_D A (wTS G h dg ln ks nx py false by0 (ou ++ [44]) de bt bk bn u np no k c f o) := hD
    refine W.eq (g2 := F0 mm 13 ls []) rfl ?_
    refine lv_aload_n hx hb d_T_layItem_13 rfl (lv_at hl 0 rfl) ?_
    refine lv_bipush (v := nI 32) hx hb d_T_layItem_14 (by decide) ?_
    refine y_call (y_runV (As := [.int (nI 32)]) (rest := []) hx hb hml hown (c_T_put l G h dg ln ks nx py false by0 (ou ++ [44]) de bt bk bn 32 (by simp only [List.length_append, List.length_singleton, List.length_cons, List.length_nil]; omega)) (gV (n := 1) hg tk_572 tk_574 (gt_s 25 (by decide +kernel) (by decide +kernel)) tk_6 tk_575 (by decide +kernel) ⟨Nat.le_of_ble_eq_true rfl, Nat.le_of_ble_eq_true rfl⟩) (va_recv hK hP (ci := 3) (q0 := 0) rfl rfl) (y_pre hE hK hP hD hS hA [0, 1, 2, 3, 4, 5] rfl rfl) rfl rfl hl.1 rfl (lv_room (Nat.le_of_ble_eq_true rfl)) d_T_layItem_16 ⟨Nat.le_of_ble_eq_true rfl, Nat.le_of_ble_eq_true rfl⟩) hP hD hS hA [0, 1, 2, 3, 4, 5] rfl (fun _ _ _ _ _ _ hp => False.elim hp) (fun v9 w9 H locs hp hlw hP hD hS => ?_)
    obtain ⟨rfl, rfl⟩ := hp
    have hP : va_P (gD G) vwC (wTS G h dg ln ks nx py false by0 ((ou ++ [44]) ++ [32]) de bt bk bn u np no k c f o) H := hP
    have hD : va_D A (wTS G h dg ln ks nx py false by0 ((ou ++ [44]) ++ [32]) de bt bk bn u np no k c f o) := hD
    refine W.eq (g2 := F0 mm 19 ls []) rfl ?_
    rw [show (ou ++ [44]) ++ [32] = ou ++ preT false by rw [List.append_assoc]; rfl] at hP hD
    exact J19   _ _ _ hP hD hS (lv_sub hl [0, 1] (rfl))
