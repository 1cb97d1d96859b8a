section RdL
variable {t : Nat → Nat} {n dg np no j p k c bt K K' q k' c' q2 bt' : Nat} {f o f' o' bk bn : Nat → Int32} {e : Nat × Nat}
theorem rd_x (hKb : bk bt = nI K) (hK8 : K ≤ 8) (h : itS t n dg np no bt K (bn bt) p k f c o = .inl e) : rdL t n dg np no (j + 1) p k f c o bt bk bn = .inl e := by
  simp only [rdL]
  rw [hKb, nI_clamp (by omega), h]
theorem rd_t (hKb : bk bt = nI K) (hK8 : K ≤ 8) (h : itS t n dg np no bt K (bn bt) p k f c o = .inr (true, K', q, k', f', c', o')) : rdL t n dg np no (j + 1) p k f c o bt bk bn = rdL t n dg np no j q k' f' c' o' (bt + 1) (upd bk (bt + 1) (nI K')) (upd bn (bt + 1) (nI (k' - 1))) := by
  simp only [rdL]
  rw [hKb, nI_clamp (by omega), h]
theorem rd_gx (hKb : bk bt = nI K) (hK8 : K ≤ 8) (h : itS t n dg np no bt K (bn bt) p k f c o = .inr (false, K', q, k', f', c', o')) (h2 : goS t n bk bt q = .inl e) : rdL t n dg np no (j + 1) p k f c o bt bk bn = .inl e := by
  simp only [rdL]
  rw [hKb, nI_clamp (by omega), h]
  simp only []
  rw [h2]
theorem rd_gt (hKb : bk bt = nI K) (hK8 : K ≤ 8) (h : itS t n dg np no bt K (bn bt) p k f c o = .inr (false, K', q, k', f', c', o')) (h2 : goS t n bk bt q = .inr (true, q2, bt')) : rdL t n dg np no (j + 1) p k f c o bt bk bn = rdL t n dg np no j q2 k' f' c' o' bt' bk bn := by
  simp only [rdL]
  rw [hKb, nI_clamp (by omega), h]
  simp only []
  rw [h2]
theorem rd_gf (hKb : bk bt = nI K) (hK8 : K ≤ 8) (h : itS t n dg np no bt K (bn bt) p k f c o = .inr (false, K', q, k', f', c', o')) (h2 : goS t n bk bt q = .inr (false, q2, bt')) : rdL t n dg np no (j + 1) p k f c o bt bk bn = .inr (q2, k', f', c', o') := by
  simp only [rdL]
  rw [hKb, nI_clamp (by omega), h]
  simp only []
  rw [h2]
theorem rdT_x (h : rdI t n dg np no f o bk bn = .inl e) : rdT t n dg np no f o bk bn = .inl e := by unfold rdT; rw [h]
end RdL

set_option maxHeartbeats 4000000 in
set_option maxRecDepth 100000 in
theorem c_R_readText {l : Launch} (hlt : l.stackTraces = false) (G : gl) (h : Nat → Nat) (dg : Nat) (n : Nat) (p : Nat) (fk : Nat) (fp : Nat) (t : Nat → Nat) (np : Nat) (no : Nat) (k : Nat) (c : Nat) (f : Nat → Int32) (o : Nat → Int32) (bt : Nat) (bk : Nat → Int32) (bn : Nat → Int32) (m : Nat) (hm : m ≤ 65536) (ht : ∀ i, t i < 256) (hnp : np ≤ 4096) (hnp2 : 2 ≤ np) (hno : no ≤ 8192) (he : 2 ∣ no) : YC l G y_R_readText k_R_readText 4 (Option.none : Option FieldType) 11 209 [.ref (h 0), .int (nI m)] (wR G h dg n p fk fp t np no k c f o bt bk bn) (fun v w => ∃ q9 k9 f9 c9 o9 u9 b9 d9, rdT t m dg np no f o bk bn = .inr (k9, f9, c9, o9) ∧ k9 ≤ np ∧ 2 * c9 ≤ no ∧ v = none ∧ w = wR G h dg m q9 0 0 t np no k9 c9 f9 o9 u9 b9 d9) (fun E w => ∃ a b, rdT t m dg np no f o bk bn = .inl (a, b) ∧ E = "java/lang/IllegalArgumentException" ∧ ∃ q k2 f2 c2 o2 u2 b2 d2, w = wR G h dg m q a b t np no k2 c2 f2 o2 u2 b2 d2) := by
  refine yc_of (by decide) ?_
  intro pg ev sx mm bl mt cd A C0 hP hD
  obtain ⟨hx, hb, hrt, hml, hown, hg, hlocks, hxt, hE, hK, hA, hmn⟩ := C0
  have hS : va_S A sx.heap sx.heap [] := va_S.rf
  have hl := lv_entry ([.ref (h 0), .int (nI m)]) (n := 4) (Nat.le_of_ble_eq_true rfl)
  rw [lg_entry_eq]
  generalize (lg_sl ([.ref (h 0), .int (nI m)]) ++ List.replicate (4 - (lg_sl ([.ref (h 0), .int (nI m)])).length) Slot.unset).toArray = ls at hl ⊢
  have hl : lv_has ls 4 [(0, .ref (h 0)), (1, .int (nI m))] := hl
  obtain ⟨H, hH⟩ : ∃ H, H = sx.heap := ⟨_, rfl⟩
  rw [← hH] at hP
  have hS : va_S A sx.heap H [] := by rw [hH]; exact hS
  suffices h9 : W pg l ev (yR 11 209) sx mm _ bl mt cd H [] 0 0 (yMQ bl G A _ _ _ _ sx) (F0 mm 0 ls []) by rw [hH] at h9; exact h9
  obtain ⟨locs, hlo⟩ : ∃ locs : List Loc, locs = [] := ⟨_, rfl⟩
  rw [← hlo] at hS ⊢
  have J47 : ∀ (n9 : Nat) (mo : Bool) (i : Nat) (q : Nat) (k1 : Nat) (f1 : Nat → Int32) (c1 : Nat) (o1 : Nat → Int32) (u : Nat) (b1 : Nat → Int32) (d1 : Nat → Int32) (hm9 : m + 2 - i < n9) (hq : q ≤ m) (hk1 : k1 ≤ np) (hc1 : 2 * c1 ≤ no) (hi : i ≤ m + 1) (hR : (mo = true ∧ rdI t m dg np no f o bk bn = rdL t m dg np no (m + 1 - i) q k1 f1 c1 o1 u b1 d1 ∧ i ≤ q ∧ StkI u b1) ∨ (mo = false ∧ rdI t m dg np no f o bk bn = .inr (q, k1, f1, c1, o1))) (H : Heap) (locs : List Loc) (ls : Array Slot), va_P (gD G) vwC (wR G h dg m q 0 0 t np no k1 c1 f1 o1 u b1 d1) H → va_D A (wR G h dg m q 0 0 t np no k1 c1 f1 o1 u b1 d1) → va_S A sx.heap H locs → lv_has ls 4 [(0, .ref (h 0)), (2, .int (bz mo)), (3, .int (nI i))] → W pg l ev (yR 11 209) sx mm ([.ref (h 0), .int (nI m)] : List Value).toArray bl mt cd H locs 0 0 (yMQ bl G A (wR G h dg n p fk fp t np no k c f o bt bk bn).length (fun v w => ∃ q9 k9 f9 c9 o9 u9 b9 d9, rdT t m dg np no f o bk bn = .inr (k9, f9, c9, o9) ∧ k9 ≤ np ∧ 2 * c9 ≤ no ∧ v = none ∧ w = wR G h dg m q9 0 0 t np no k9 c9 f9 o9 u9 b9 d9) (fun E w => ∃ a b, rdT t m dg np no f o bk bn = .inl (a, b) ∧ E = "java/lang/IllegalArgumentException" ∧ ∃ q k2 f2 c2 o2 u2 b2 d2, w = wR G h dg m q a b t np no k2 c2 f2 o2 u2 b2 d2) ([.ref (h 0), .int (nI m)] : List Value).toArray sx) (F0 mm 47 ls []) := by
    intro n9
    induction n9 with
    | zero => intro mo i q k1 f1 c1 o1 u b1 d1 hm9; exact absurd hm9 (Nat.not_lt_zero _)
    | succ n9 ih9 =>
      intro mo i q k1 f1 c1 o1 u b1 d1 hm9 hq hk1 hc1 hi hR H locs ls hP hD hS hl
      refine lv_iload_n hx hb d_R_readText_47 rfl (lv_at hl 1 rfl) ?_
      refine yy_if_eq (P := mo) (tgt := 85) hx hb d_R_readText_48 (by decide) (fun c48 => ?_) (fun c48 => ?_)
      · skip
        have hR1 : rdI t m dg np no f o bk bn = .inr (q, k1, f1, c1, o1) := by rcases hR with y | y; rw [c48] at y; exact absurd y.1 (by decide); exact y.2
        refine lv_aload_n hx hb d_R_readText_85 rfl (lv_at hl 0 rfl) ?_
        refine y_call (y_runV (As := []) (rest := []) hx hb hml hown (c_R_skipBlanks l G h dg m q 0 0 t np no k1 c1 f1 o1 u b1 d1  (by omega) (by omega) (ht)) (gV (n := 0) hg tk_333 tk_335 (gt_s 4 (by decide +kernel) (by decide +kernel)) tk_4 tk_336 (by decide +kernel) ⟨Nat.le_of_ble_eq_true rfl, Nat.le_of_ble_eq_true rfl⟩) (va_recv hK hP (ci := 1) (q0 := 0) rfl rfl) (y_pre hE hK hP hD hS hA [0, 1, 2, 3, 4, 5, 6, 7] rfl rfl) rfl rfl hl.1 rfl (lv_room (Nat.le_of_ble_eq_true rfl)) d_R_readText_86 ⟨Nat.le_of_ble_eq_true rfl, Nat.le_of_ble_eq_true rfl⟩) hP hD hS hA [0, 1, 2, 3, 4, 5, 6, 7] rfl (fun _ _ _ _ _ _ hp => False.elim hp) (fun v9 w9 H locs hp hlw hP hD hS => ?_)
        obtain ⟨rfl, rfl⟩ := hp
        have hP : va_P (gD G) vwC (wR G h dg m (rn blN t m q) 0 0 t np no k1 c1 f1 o1 u b1 d1) H := hP
        have hD : va_D A (wR G h dg m (rn blN t m q) 0 0 t np no k1 c1 f1 o1 u b1 d1) := hD
        refine W.eq (g2 := F0 mm 89 ls []) rfl ?_
        have hsk := rn_le (P := blN) (t := t) (n := m) (p := q) hq
        refine lv_aload_n hx hb d_R_readText_89 rfl (lv_at hl 0 rfl) ?_
        refine va_get (D := gD G) (ci := 1) (v := .int (nI (rn blN t m q))) (C := "WordShapes$Reader") (T := TR) (N := 8) hx hb hg iw_R hown hK hP 0 rfl rfl 5 (by decide) (hg _ tk_92) (fun _ h9 => h9) rfl d_R_readText_90 ?_
        refine lv_aload_n hx hb d_R_readText_93 rfl (lv_at hl 0 rfl) ?_
        refine va_get (D := gD G) (ci := 1) (v := .int (nI m)) (C := "WordShapes$Reader") (T := TR) (N := 8) hx hb hg iw_R hown hK hP 0 rfl rfl 4 (by decide) (hg _ tk_91) (fun _ h9 => h9) rfl d_R_readText_94 ?_
        refine yn_icmp_ge (a := rn blN t m q) (b := m) (tgt := 110) hx hb d_R_readText_97 (by decide) (by omega) (by omega) (fun c97 => ?_) (fun c97 => ?_)
        · skip
          exact yr_v (ws := wR G h dg m (rn blN t m q) 0 0 t np no k1 c1 f1 o1 u b1 d1) hx hb hrt hlocks (⟨_, _, _, _, _, _, _, _, by unfold rdT; rw [hR1]; exact if_neg (by omega), hk1, hc1, rfl, rfl⟩) rfl hK hP hD hS d_R_readText_110
        · skip
          refine lv_aload_n hx hb d_R_readText_100 rfl (lv_at hl 0 rfl) ?_
          refine lv_bipush (v := nI 8) hx hb d_R_readText_101 (by decide) ?_
          refine lv_aload_n hx hb d_R_readText_103 rfl (lv_at hl 0 rfl) ?_
          refine va_get (D := gD G) (ci := 1) (v := .int (nI (rn blN t m q))) (C := "WordShapes$Reader") (T := TR) (N := 8) hx hb hg iw_R hown hK hP 0 rfl rfl 5 (by decide) (hg _ tk_92) (fun _ h9 => h9) rfl d_R_readText_104 ?_
          refine y_call (y_runV (As := [.int (nI 8), .int (nI (rn blN t m q))]) (rest := []) hx hb hml hown (c_R_fail hlt G h dg m (rn blN t m q) 0 0 t np no k1 c1 f1 o1 u b1 d1 8 (rn blN t m q) ) (gV (n := 2) hg tk_370 tk_372 (gt_s 8 (by decide +kernel) (by decide +kernel)) tk_4 tk_373 (by decide +kernel) ⟨Nat.le_of_ble_eq_true rfl, Nat.le_of_ble_eq_true rfl⟩) (va_recv hK hP (ci := 1) (q0 := 0) rfl rfl) (y_pre hE hK hP hD hS hA [0, 1, 2, 3, 4, 5, 6, 7] rfl rfl) rfl rfl hl.1 rfl (lv_room (Nat.le_of_ble_eq_true rfl)) d_R_readText_107 ⟨Nat.le_of_ble_eq_true rfl, Nat.le_of_ble_eq_true rfl⟩) hP hD hS hA [0, 1, 2, 3, 4, 5, 6, 7] rfl (fun E9 w9 qx cx H locs hp hlw hP hD hS hq1 hq2 hq3 => ?_) (fun _ _ _ _ hp => False.elim hp)
          · skip
            obtain ⟨rfl, rfl⟩ := hp
            have hP : va_P (gD G) vwC (wR G h dg m (rn blN t m q) 8 (rn blN t m q) t np no k1 c1 f1 o1 u b1 d1) H := hP
            have hD : va_D A (wR G h dg m (rn blN t m q) 8 (rn blN t m q) t np no k1 c1 f1 o1 u b1 d1) := hD
            exact y_out (ws := wR G h dg m (rn blN t m q) 8 (rn blN t m q) t np no k1 c1 f1 o1 u b1 d1) hxt hlocks hq1 hq2 hq3 (⟨_, _, by unfold rdT; rw [hR1]; exact if_pos c97, rfl, _, _, _, _, _, _, _, _, rfl⟩) rfl hK hP hD hS
      · skip
        obtain ⟨hR1, hR2, hR3⟩ : rdI t m dg np no f o bk bn = rdL t m dg np no (m + 1 - i) q k1 f1 c1 o1 u b1 d1 ∧ i ≤ q ∧ StkI u b1 := by rcases hR with y | y; exact y.2; rw [c48] at y; exact absurd y.1 (by decide)
        obtain ⟨K, hKb, hK8, hlim, -⟩ := hR3 u (Nat.le_refl _)
        refine lv_iload_n hx hb d_R_readText_51 rfl (lv_at hl 2 rfl) ?_
        refine lv_aload_n hx hb d_R_readText_52 rfl (lv_at hl 0 rfl) ?_
        refine va_get (D := gD G) (ci := 1) (v := .int (nI m)) (C := "WordShapes$Reader") (T := TR) (N := 8) hx hb hg iw_R hown hK hP 0 rfl rfl 4 (by decide) (hg _ tk_91) (fun _ h9 => h9) rfl d_R_readText_53 ?_
        refine yn_icmp_gt (a := i) (b := m) (tgt := 85) hx hb d_R_readText_56 (by decide) (by omega) (by omega) (fun c56 => ?_) (fun c56 => ?_)
        · skip
          exact absurd c56 (by omega)
        · skip
          refine lv_aload_n hx hb d_R_readText_59 rfl (lv_at hl 0 rfl) ?_
          refine y_call (y_runV (As := []) (rest := []) hx hb hml hown (c_R_opensItem hlt G h dg m q 0 0 t np no k1 c1 f1 o1 u b1 d1 K (by omega) (by omega) (ht) (by omega) (by omega) (by omega) (by omega) (by omega) (hKb) (hK8) (hlim)) (gV (n := 0) hg tk_329 tk_331 (gt_s 3 (by decide +kernel) (by decide +kernel)) tk_4 tk_332 (by decide +kernel) ⟨Nat.le_of_ble_eq_true rfl, Nat.le_of_ble_eq_true rfl⟩) (va_recv hK hP (ci := 1) (q0 := 0) rfl rfl) (y_pre hE hK hP hD hS hA [0, 1, 2, 3, 4, 5, 6, 7] rfl rfl) rfl rfl hl.1 rfl (lv_room (Nat.le_of_ble_eq_true rfl)) d_R_readText_60 ⟨Nat.le_of_ble_eq_true rfl, Nat.le_of_ble_eq_true rfl⟩) hP hD hS hA [0, 1, 2, 3, 4, 5, 6, 7] rfl (fun E9 w9 qx cx H locs hp hlw hP hD hS hq1 hq2 hq3 => ?_) (fun v9 w9 H locs hp hlw hP hD hS => ?_)
          · skip
            obtain ⟨a_60, b_60, hs_60, rfl, q_60, k2_60, f2_60, c2_60, o2_60, rfl⟩ := hp
            have hP : va_P (gD G) vwC (wR G h dg m q_60 a_60 b_60 t np no k2_60 c2_60 f2_60 o2_60 u b1 d1) H := hP
            have hD : va_D A (wR G h dg m q_60 a_60 b_60 t np no k2_60 c2_60 f2_60 o2_60 u b1 d1) := hD
            exact y_out (ws := wR G h dg m q_60 a_60 b_60 t np no k2_60 c2_60 f2_60 o2_60 u b1 d1) hxt hlocks hq1 hq2 hq3 (⟨_, _, rdT_x (hR1.trans (by rw [show m + 1 - i = (m - i) + 1 by omega]; exact rd_x hKb hK8 hs_60)), rfl, _, _, _, _, _, _, _, _, rfl⟩) rfl hK hP hD hS
          obtain ⟨b9_60, K9_60, q9_60, k9_60, f9_60, c9_60, o9_60, hs_60, rfl, rfl⟩ := hp
          have hP : va_P (gD G) vwC (wR G h dg m q9_60 0 0 t np no k9_60 c9_60 f9_60 o9_60 (cond b9_60 (u + 1) u) (cond b9_60 (upd b1 (u + 1) (nI K9_60)) b1) (cond b9_60 (upd d1 (u + 1) (nI (k9_60 - 1))) d1)) H := hP
          have hD : va_D A (wR G h dg m q9_60 0 0 t np no k9_60 c9_60 f9_60 o9_60 (cond b9_60 (u + 1) u) (cond b9_60 (upd b1 (u + 1) (nI K9_60)) b1) (cond b9_60 (upd d1 (u + 1) (nI (k9_60 - 1))) d1)) := hD
          refine W.eq (g2 := F0 mm 63 ls [.int (bz b9_60)]) rfl ?_
          have hb60 := it_bd hq hk1 hc1 he hs_60
          refine yy_if_ne (P := b9_60) (tgt := 73) hx hb d_R_readText_63 (by decide) (fun c63 => ?_) (fun c63 => ?_)
          · skip
            subst c63
            have hP : va_P (gD G) vwC (wR G h dg m q9_60 0 0 t np no k9_60 c9_60 f9_60 o9_60 (u + 1) (upd b1 (u + 1) (nI K9_60)) (upd d1 (u + 1) (nI (k9_60 - 1)))) H := hP
            have hD : va_D A (wR G h dg m q9_60 0 0 t np no k9_60 c9_60 f9_60 o9_60 (u + 1) (upd b1 (u + 1) (nI K9_60)) (upd d1 (u + 1) (nI (k9_60 - 1)))) := hD
            refine lv_iconst (v := nI 1) hx hb d_R_readText_73 (by decide) ?_
            refine lv_goto (tgt := 78) hx hb d_R_readText_74 (by decide) ?_
            refine lv_istore_n (lv' := [(2, .int (nI 1)), (0, .ref (h 0)), (3, .int (nI i))]) hx hb d_R_readText_78 rfl hl (by decide) rfl (fun ls hl => ?_)
            refine lv_iinc (v := nI (i + 1)) (lv' := [(3, .int (nI (i + 1))), (2, .int (nI 1)), (0, .ref (h 0))]) hx hb d_R_readText_79 hl (k := 2) rfl (y_inc _) (by decide) rfl (fun ls hl => ?_)
            refine lv_goto (tgt := 47) hx hb d_R_readText_82 (by decide) ?_
            exact ih9 true (i + 1) q9_60 k9_60 f9_60 c9_60 o9_60 (u + 1) (upd b1 (u + 1) (nI K9_60)) (upd d1 (u + 1) (nI (k9_60 - 1))) (by omega) (by omega) (by omega) (by omega) (by omega) (Or.inl ⟨rfl, hR1.trans (by rw [show m + 1 - i = (m - i) + 1 by omega, rd_t hKb hK8 hs_60, show m - i = m + 1 - (i + 1) by omega]), by omega, stk_push hR3 (it_push hK8 hlim hq hs_60).1 (it_push hK8 hlim hq hs_60).2⟩) _ _ _ hP hD hS (lv_sub hl [2, 1, 0] (rfl))
          · skip
            subst c63
            have hP : va_P (gD G) vwC (wR G h dg m q9_60 0 0 t np no k9_60 c9_60 f9_60 o9_60 u b1 d1) H := hP
            have hD : va_D A (wR G h dg m q9_60 0 0 t np no k9_60 c9_60 f9_60 o9_60 u b1 d1) := hD
            refine lv_aload_n hx hb d_R_readText_66 rfl (lv_at hl 0 rfl) ?_
            refine y_call (y_runV (As := []) (rest := []) hx hb hml hown (c_R_goesOn hlt G h dg m q9_60 0 0 t np no k9_60 c9_60 f9_60 o9_60 u b1 d1  (by omega) (by omega) (ht) (stk_53 hR3)) (gV (n := 0) hg tk_522 tk_524 (gt_s 23 (by decide +kernel) (by decide +kernel)) tk_4 tk_525 (by decide +kernel) ⟨Nat.le_of_ble_eq_true rfl, Nat.le_of_ble_eq_true rfl⟩) (va_recv hK hP (ci := 1) (q0 := 0) rfl rfl) (y_pre hE hK hP hD hS hA [0, 1, 2, 3, 4, 5, 6, 7] rfl rfl) rfl rfl hl.1 rfl (lv_room (Nat.le_of_ble_eq_true rfl)) d_R_readText_67 ⟨Nat.le_of_ble_eq_true rfl, Nat.le_of_ble_eq_true rfl⟩) hP hD hS hA [0, 1, 2, 3, 4, 5, 6, 7] rfl (fun E9 w9 qx cx H locs hp hlw hP hD hS hq1 hq2 hq3 => ?_) (fun v9 w9 H locs hp hlw hP hD hS => ?_)
            · skip
              obtain ⟨a_67, b_67, hs_67, rfl, q_67, b8_67, rfl⟩ := hp
              have hP : va_P (gD G) vwC (wR G h dg m q_67 a_67 b_67 t np no k9_60 c9_60 f9_60 o9_60 b8_67 b1 d1) H := hP
              have hD : va_D A (wR G h dg m q_67 a_67 b_67 t np no k9_60 c9_60 f9_60 o9_60 b8_67 b1 d1) := hD
              exact y_out (ws := wR G h dg m q_67 a_67 b_67 t np no k9_60 c9_60 f9_60 o9_60 b8_67 b1 d1) hxt hlocks hq1 hq2 hq3 (⟨_, _, rdT_x (hR1.trans (by rw [show m + 1 - i = (m - i) + 1 by omega]; exact rd_gx hKb hK8 hs_60 hs_67)), rfl, _, _, _, _, _, _, _, _, rfl⟩) rfl hK hP hD hS
            obtain ⟨b9_67, q9_67, b8_67, hs_67, rfl, rfl⟩ := hp
            have hP : va_P (gD G) vwC (wR G h dg m q9_67 0 0 t np no k9_60 c9_60 f9_60 o9_60 b8_67 b1 d1) H := hP
            have hD : va_D A (wR G h dg m q9_67 0 0 t np no k9_60 c9_60 f9_60 o9_60 b8_67 b1 d1) := hD
            refine W.eq (g2 := F0 mm 70 ls [.int (bz b9_67)]) rfl ?_
            have hg67 := go_bd u q9_60 hb60.2.1 hs_67
            refine yy_if_eq (P := b9_67) (tgt := 77) hx hb d_R_readText_70 (by decide) (fun c70 => ?_) (fun c70 => ?_)
            · skip
              subst c70
              refine lv_iconst (v := nI 0) hx hb d_R_readText_77 (by decide) ?_
              refine lv_istore_n (lv' := [(2, .int (nI 0)), (0, .ref (h 0)), (3, .int (nI i))]) hx hb d_R_readText_78 rfl hl (by decide) rfl (fun ls hl => ?_)
              refine lv_iinc (v := nI (i + 1)) (lv' := [(3, .int (nI (i + 1))), (2, .int (nI 0)), (0, .ref (h 0))]) hx hb d_R_readText_79 hl (k := 2) rfl (y_inc _) (by decide) rfl (fun ls hl => ?_)
              refine lv_goto (tgt := 47) hx hb d_R_readText_82 (by decide) ?_
              exact ih9 false (i + 1) q9_67 k9_60 f9_60 c9_60 o9_60 b8_67 b1 d1 (by omega) (by omega) (by omega) (by omega) (by omega) (Or.inr ⟨rfl, hR1.trans (by rw [show m + 1 - i = (m - i) + 1 by omega, rd_gf hKb hK8 hs_60 hs_67])⟩) _ _ _ hP hD hS (lv_sub hl [2, 1, 0] (rfl))
            · skip
              subst c70
              refine lv_iconst (v := nI 1) hx hb d_R_readText_73 (by decide) ?_
              refine lv_goto (tgt := 78) hx hb d_R_readText_74 (by decide) ?_
              refine lv_istore_n (lv' := [(2, .int (nI 1)), (0, .ref (h 0)), (3, .int (nI i))]) hx hb d_R_readText_78 rfl hl (by decide) rfl (fun ls hl => ?_)
              refine lv_iinc (v := nI (i + 1)) (lv' := [(3, .int (nI (i + 1))), (2, .int (nI 1)), (0, .ref (h 0))]) hx hb d_R_readText_79 hl (k := 2) rfl (y_inc _) (by decide) rfl (fun ls hl => ?_)
              refine lv_goto (tgt := 47) hx hb d_R_readText_82 (by decide) ?_
              exact ih9 true (i + 1) q9_67 k9_60 f9_60 c9_60 o9_60 b8_67 b1 d1 (by omega) (by omega) (by omega) (by omega) (by omega) (Or.inl ⟨rfl, hR1.trans (by rw [show m + 1 - i = (m - i) + 1 by omega, rd_gt hKb hK8 hs_60 hs_67, show m - i = m + 1 - (i + 1) by omega]), by omega, stk_pop hR3 hg67.2.2.1⟩) _ _ _ hP hD hS (lv_sub hl [2, 1, 0] (rfl))
  refine lv_aload_n hx hb d_R_readText_0 rfl (lv_at hl 0 rfl) ?_
  refine lv_iload_n hx hb d_R_readText_1 rfl (lv_at hl 1 rfl) ?_
  refine lv_aload_n hx hb d_R_readText_2 rfl (lv_at hl 0 rfl) ?_
  refine va_get (D := gD G) (ci := 1) (v := .ref (h 1)) (C := "WordShapes$Reader") (T := TR) (N := 8) hx hb hg iw_R hown hK hP 0 rfl rfl 0 (by decide) (hg _ tk_86) (fun _ h9 => h9) rfl d_R_readText_3 ?_
  refine va_alen hx hb hK hP 1 1 rfl rfl (v := nI 65536) rfl d_R_readText_6 ?_
  refine va_mmin hx hb (hml.trans hl.1.symm) hown (hg _ tk_323) (hg _ tk_31) (hg _ tk_2) (hg _ tk_32) (Nat.le_of_ble_eq_true rfl) (Nat.le_of_ble_eq_true rfl) (Nat.le_of_ble_eq_true rfl) (Nat.le_of_ble_eq_true rfl) d_R_readText_7 ?_
  refine y_eqi (y := nI m) ((minN (by omega) (by omega)).trans (congrArg nI (Nat.min_eq_left (by omega)))) ?_
  refine va_put (D := gD G) (ci := 1) (v := .int (nI m)) (ty := .int) (C := "WordShapes$Reader") (T := TR) (N := 8) hx hb hg iw_R ft_R fo_R nm_R hown hK hP hD hS 0 rfl rfl 4 (by decide) (hg _ tk_91) (fun _ h9 => h9) rfl (by decide +kernel) (rfl) (rfl) (Nat.le_of_ble_eq_true rfl) d_R_readText_10 (fun H locs hP hD hS => ?_)
  have hP : va_P (gD G) vwC (wR G h dg m p fk fp t np no k c f o bt bk bn) H := hP
  have hD : va_D A (wR G h dg m p fk fp t np no k c f o bt bk bn) := hD
  refine lv_aload_n hx hb d_R_readText_13 rfl (lv_at hl 0 rfl) ?_
  refine lv_iconst (v := nI 0) hx hb d_R_readText_14 (by decide) ?_
  refine va_put (D := gD G) (ci := 1) (v := .int (nI 0)) (ty := .int) (C := "WordShapes$Reader") (T := TR) (N := 8) hx hb hg iw_R ft_R fo_R nm_R hown hK hP hD hS 0 rfl rfl 5 (by decide) (hg _ tk_92) (fun _ h9 => h9) rfl (by decide +kernel) (rfl) (rfl) (Nat.le_of_ble_eq_true rfl) d_R_readText_15 (fun H locs hP hD hS => ?_)
  have hP : va_P (gD G) vwC (wR G h dg m 0 fk fp t np no k c f o bt bk bn) H := hP
  have hD : va_D A (wR G h dg m 0 fk fp t np no k c f o bt bk bn) := hD
  refine lv_aload_n hx hb d_R_readText_18 rfl (lv_at hl 0 rfl) ?_
  refine lv_iconst (v := nI 0) hx hb d_R_readText_19 (by decide) ?_
  refine va_put (D := gD G) (ci := 1) (v := .int (nI 0)) (ty := .int) (C := "WordShapes$Reader") (T := TR) (N := 8) hx hb hg iw_R ft_R fo_R nm_R hown hK hP hD hS 0 rfl rfl 6 (by decide) (hg _ tk_93) (fun _ h9 => h9) rfl (by decide +kernel) (rfl) (rfl) (Nat.le_of_ble_eq_true rfl) d_R_readText_20 (fun H locs hP hD hS => ?_)
  have hP : va_P (gD G) vwC (wR G h dg m 0 0 fp t np no k c f o bt bk bn) H := hP
  have hD : va_D A (wR G h dg m 0 0 fp t np no k c f o bt bk bn) := hD
  refine lv_aload_n hx hb d_R_readText_23 rfl (lv_at hl 0 rfl) ?_
  refine lv_iconst (v := nI 0) hx hb d_R_readText_24 (by decide) ?_
  refine va_put (D := gD G) (ci := 1) (v := .int (nI 0)) (ty := .int) (C := "WordShapes$Reader") (T := TR) (N := 8) hx hb hg iw_R ft_R fo_R nm_R hown hK hP hD hS 0 rfl rfl 7 (by decide) (hg _ tk_95) (fun _ h9 => h9) rfl (by decide +kernel) (rfl) (rfl) (Nat.le_of_ble_eq_true rfl) d_R_readText_25 (fun H locs hP hD hS => ?_)
  have hP : va_P (gD G) vwC (wR G h dg m 0 0 0 t np no k c f o bt bk bn) H := hP
  have hD : va_D A (wR G h dg m 0 0 0 t np no k c f o bt bk bn) := hD
  refine lv_aload_n hx hb d_R_readText_28 rfl (lv_at hl 0 rfl) ?_
  refine va_get (D := gD G) (ci := 1) (v := .ref (h 2)) (C := "WordShapes$Reader") (T := TR) (N := 8) hx hb hg iw_R hown hK hP 0 rfl rfl 2 (by decide) (hg _ tk_88) (fun _ h9 => h9) rfl d_R_readText_29 ?_
  refine y_call (y_runV (As := []) (rest := []) hx hb hml hown (c_S_clear l G (fun i => h (i + 2)) np no k c f o  ) (gV (n := 0) hg tk_324 tk_316 tk_317 tk_3 tk_318 (by decide +kernel) ⟨Nat.le_of_ble_eq_true rfl, Nat.le_of_ble_eq_true rfl⟩) (va_recv hK hP (ci := 2) (q0 := 2) rfl rfl) (y_pre hE hK hP hD hS hA [2, 3, 4] rfl rfl) rfl rfl hl.1 rfl (lv_room (Nat.le_of_ble_eq_true rfl)) d_R_readText_32 ⟨Nat.le_of_ble_eq_true rfl, Nat.le_of_ble_eq_true rfl⟩) hP hD hS hA [2, 3, 4] rfl (fun _ _ _ _ _ _ hp => False.elim hp) (fun v9 w9 H locs hp hlw hP hD hS => ?_)
  obtain ⟨rfl, rfl⟩ := hp
  have hP : va_P (gD G) vwC (wR G h dg m 0 0 0 t np no 0 0 f o bt bk bn) H := hP
  have hD : va_D A (wR G h dg m 0 0 0 t np no 0 0 f o bt bk bn) := hD
  refine W.eq (g2 := F0 mm 35 ls []) rfl ?_
  refine lv_aload_n hx hb d_R_readText_35 rfl (lv_at hl 0 rfl) ?_
  refine va_get (D := gD G) (ci := 1) (v := .ref (h 5)) (C := "WordShapes$Reader") (T := TR) (N := 8) hx hb hg iw_R hown hK hP 0 rfl rfl 3 (by decide) (hg _ tk_90) (fun _ h9 => h9) rfl d_R_readText_36 ?_
  refine lv_iconst (v := (-1)) hx hb d_R_readText_39 (by decide) ?_
  refine y_call (y_runV (As := [.int (-1)]) (rest := []) hx hb hml hown (c_B_start l G (fun i => h (i + 5)) bt bk bn (-1) ) (gV (n := 1) hg tk_325 tk_326 tk_327 tk_5 tk_328 (by decide +kernel) ⟨Nat.le_of_ble_eq_true rfl, Nat.le_of_ble_eq_true rfl⟩) (va_recv hK hP (ci := 0) (q0 := 5) rfl rfl) (y_pre hE hK hP hD hS hA [5, 6, 7] rfl rfl) rfl rfl hl.1 rfl (lv_room (Nat.le_of_ble_eq_true rfl)) d_R_readText_40 ⟨Nat.le_of_ble_eq_true rfl, Nat.le_of_ble_eq_true rfl⟩) hP hD hS hA [5, 6, 7] rfl (fun _ _ _ _ _ _ hp => False.elim hp) (fun v9 w9 H locs hp hlw hP hD hS => ?_)
  obtain ⟨rfl, rfl⟩ := hp
  have hP : va_P (gD G) vwC (wR G h dg m 0 0 0 t np no 0 0 f o 0 (upd bk 0 (nI 0)) (upd bn 0 (-1))) H := hP
  have hD : va_D A (wR G h dg m 0 0 0 t np no 0 0 f o 0 (upd bk 0 (nI 0)) (upd bn 0 (-1))) := hD
  refine W.eq (g2 := F0 mm 43 ls []) rfl ?_
  refine lv_iconst (v := nI 1) hx hb d_R_readText_43 (by decide) ?_
  refine lv_istore_n (lv' := [(2, .int (nI 1)), (0, .ref (h 0)), (1, .int (nI m))]) hx hb d_R_readText_44 rfl hl (by decide) rfl (fun ls hl => ?_)
  refine lv_iconst (v := nI 0) hx hb d_R_readText_45 (by decide) ?_
  refine lv_istore_n (lv' := [(3, .int (nI 0)), (2, .int (nI 1)), (0, .ref (h 0)), (1, .int (nI m))]) hx hb d_R_readText_46 rfl hl (by decide) rfl (fun ls hl => ?_)
  exact J47 _ true 0 0 0 f 0 o 0 (upd bk 0 (nI 0)) (upd bn 0 (-1)) (Nat.lt_succ_self _) (by omega) (by omega) (by omega) (by omega) (Or.inl ⟨rfl, rfl, Nat.le_refl _, stk_0⟩) _ _ _ hP hD hS (lv_sub hl [2, 1, 0] (rfl))
