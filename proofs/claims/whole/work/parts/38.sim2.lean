section Sim2
variable {t : Nat → Nat} {n dg mp ml : Nat}
theorem ls_8 (t : Nat → Nat) (a b : Nat) : lsM t a b 8 = 8 ↔ wmP t a b 8 := by
  show (if wmP t a b 8 then 8 else lsM t a b 7) = 8 ↔ _
  by_cases h : wmP t a b 8
  · rw [if_pos h]; exact ⟨fun _ => h, fun _ => rfl⟩
  · rw [if_neg h]
    have := lsM_le t a b 7
    exact ⟨fun z => by omega, fun z => absurd z h⟩
/-- no letters are two words -/
theorem wm_one {t : Nat → Nat} {a b k j : Nat} (hk : 1 ≤ k) (hk8 : k ≤ 8) (hj : 1 ≤ j) (hj8 : j ≤ 8) (h1 : wmP t a b k) (h2 : wmP t a b j) : k = j := by
  have e1 := h1.1.symm.trans h2.1
  have p : 0 < b - a := by
    rw [h1.1]
    rcases (show k = 1 ∨ k = 2 ∨ k = 3 ∨ k = 4 ∨ k = 5 ∨ k = 6 ∨ k = 7 ∨ k = 8 by omega) with rfl | rfl | rfl | rfl | rfl | rfl | rfl | rfl <;> decide
  have e2 := (h1.2 0 p).symm.trans (h2.2 0 p)
  rcases (show k = 1 ∨ k = 2 ∨ k = 3 ∨ k = 4 ∨ k = 5 ∨ k = 6 ∨ k = 7 ∨ k = 8 by omega) with rfl | rfl | rfl | rfl | rfl | rfl | rfl | rfl <;>
  rcases (show j = 1 ∨ j = 2 ∨ j = 3 ∨ j = 4 ∨ j = 5 ∨ j = 6 ∨ j = 7 ∨ j = 8 by omega) with rfl | rfl | rfl | rfl | rfl | rfl | rfl | rfl <;>
  first | rfl | exact absurd e1 (by decide) | exact absurd e2 (by decide)
theorem ls_wm {t : Nat → Nat} {a b : Nat} : ∀ w, ¬ lsM t a b w = 0 → wmP t a b (lsM t a b w)
  | 0, h => absurd rfl h
  | w + 1, h => by
    unfold lsM at h ⊢
    by_cases q : wmP t a b (w + 1)
    · rw [if_pos q]; exact q
    · rw [if_neg q] at h ⊢; exact ls_wm w h
theorem ls_of {t : Nat → Nat} {a b k : Nat} (hk : 1 ≤ k) (hk8 : k ≤ 8) (h : wmP t a b k) : ∀ w, k ≤ w → w ≤ 8 → lsM t a b w = k
  | 0, h1, _ => by omega
  | w + 1, h1, h2 => by
    unfold lsM
    by_cases q : wmP t a b (w + 1)
    · rw [if_pos q]; exact wm_one (by omega) h2 hk hk8 q h
    · rw [if_neg q]
      have : ¬ k = w + 1 := fun z => q (z ▸ h)
      exact ls_of hk hk8 h w (by omega) (by omega)
theorem kwA_wm {t : Nat → Nat} {a b : Nat} : ∀ m k, 1 ≤ k → ¬ kwA t a b m k = 0 → wmP t a b (kwA t a b m k)
  | 0, k, _, h => absurd rfl h
  | m + 1, k, h1, h => by
    unfold kwA at h ⊢
    by_cases q : wmP t a b k
    · rw [if_pos q]; exact q
    · rw [if_neg q] at h ⊢; exact kwA_wm m (k + 1) (by omega) h
theorem kwA_ne {t : Nat → Nat} {a b k : Nat} (h : wmP t a b k) : ∀ m j, 1 ≤ j → j ≤ k → k < j + m → ¬ kwA t a b m j = 0
  | 0, j, _, h1, h2 => by omega
  | m + 1, j, h0, h1, h2 => by
    unfold kwA
    by_cases q : wmP t a b j
    · rw [if_pos q]; omega
    · rw [if_neg q]
      have : ¬ k = j := fun z => q (z ▸ h)
      exact kwA_ne h m (j + 1) (by omega) (by omega) (by omega)
/-- the word that the letters are, of 1 .. 7 -/
theorem ls_kw (t : Nat → Nat) (a b : Nat) : lsM t a b 8 = if wmP t a b 8 then 8 else kwF t a b := by
  by_cases h : wmP t a b 8
  · rw [if_pos h]; exact (ls_8 t a b).mpr h
  · rw [if_neg h]
    by_cases h2 : kwF t a b = 0
    · rw [h2]
      refine Classical.byContradiction fun q => ?_
      have h3 := ls_wm 8 q
      have h4 := lsM_le t a b 8
      have h5 : ¬ lsM t a b 8 = 8 := fun z => h ((ls_8 t a b).mp z)
      exact kwA_ne h3 7 1 (by omega) (by omega) (by omega) h2
    · have h3 : wmP t a b (kwF t a b) := kwA_wm 7 1 (by omega) h2
      have h4 := kwF_le t a b
      exact ls_of (by omega) (by omega) h3 8 (by omega) (by omega)
theorem kw_8 {t : Nat → Nat} {a b : Nat} (h : wmP t a b 8) : kwF t a b = 0 := by
  refine Classical.byContradiction fun q => ?_
  have h3 : wmP t a b (kwF t a b) := kwA_wm 7 1 (by omega) q
  have h4 := kwF_le t a b
  have h5 : kwF t a b = 8 := wm_one (by omega) (by omega) (by omega) (by omega) h3 h
  omega
theorem kd_r {bt p k : Nat} (h : kdM t n bt p = .inr k) : kdR t n p bt = .inr () ∧ kwF t p (rn leN t n p) = k := by
  unfold kdM at h
  unfold kdR
  split at h
  · cases h
  · next h1 =>
    rw [if_neg h1]
    split at h
    · cases h
    · next h2 =>
      have e : lsM t p (rn leN t n p) 8 = kwF t p (rn leN t n p) := by
        rw [ls_kw] at h2 ⊢
        by_cases q : wmP t p (rn leN t n p) 8
        · rw [if_pos q] at h2; omega
        · rw [if_neg q]
      split at h
      · cases h
      · next h3 =>
        rw [e] at h2 h3
        cases h
        rw [if_neg (by omega), if_neg h3]
        exact ⟨rfl, e.symm⟩
theorem kd_x {bt p : Nat} {e : Nat × Nat} (h : kdM t n bt p = .inl e) : kdR t n p bt = .inl e := by
  unfold kdM at h
  unfold kdR
  split at h
  · next h1 => rw [if_pos h1]; cases h; rfl
  · next h1 =>
    rw [if_neg h1]
    split at h
    · next h2 =>
      have : kwF t p (rn leN t n p) = 0 := by
        rw [ls_kw] at h2
        by_cases q : wmP t p (rn leN t n p) 8
        · exact kw_8 q
        · rw [if_neg q] at h2
          have := kwF_le t p (rn leN t n p)
          omega
      rw [if_pos this]; cases h; rfl
    · next h2 =>
      have e : lsM t p (rn leN t n p) 8 = kwF t p (rn leN t n p) := by
        rw [ls_kw] at h2 ⊢
        by_cases q : wmP t p (rn leN t n p) 8
        · rw [if_pos q] at h2; omega
        · rw [if_neg q]
      split at h
      · next h3 =>
        rw [e] at h2 h3
        rw [if_neg (by omega), if_pos h3]; cases h; rfl
      · cases h
theorem le_40 {c : Nat} (h : c = 40) : leN c = false := by subst h; rfl
theorem nu_40 {c : Nat} (h : c = 40) : nuN c = false := by subst h; rfl
/-- what stands for the parts -/
theorem lk_ob {b : Bool} {p : Nat} (hid : rn blN t n p = p) (hb : ¬ (b = true ∧ nuN (hr t n p) = true)) : lkM t n b p = match obS t n p with
    | .inl e => .inl e
    | .inr (true, q) => .inr (1, q)
    | .inr (false, q) => .inr (0, q) := by
  unfold lkM obS
  rw [hid]
  by_cases h4 : hr t n p = 40
  · rw [if_pos h4, if_neg (by rw [le_40 h4]; decide), if_pos h4]
  · rw [if_neg h4, if_neg hb]
    cases hl : leN (hr t n p) with
    | false => rw [if_pos rfl, if_neg (by decide), if_neg h4]
    | true =>
      rw [if_neg (by decide), if_pos rfl]
      by_cases hw : wmP t p (rn leN t n p) 8
      · rw [if_pos ((ls_8 _ _ _).mpr hw), if_pos hw]
      · rw [if_neg (fun z => hw ((ls_8 _ _ _).mp z)), if_neg hw]
theorem lk_nu {p : Nat} (hid : rn blN t n p = p) (hn : nuN (hr t n p) = true) : lkM t n true p = .inr (2, p) := by
  unfold lkM
  rw [hid, if_neg (fun z => by rw [nu_40 z] at hn; exact absurd hn (by decide)), if_pos ⟨rfl, hn⟩]
theorem AG_kp {f : Nat → Int32} {xs : List Int32} {W : Nat → Prop} (K : Nat) (h : AG f xs W) : AG (kpF f xs.length K) (xs ++ [nI K] ++ [nI 0]) W := by
  unfold kpF
  refine AG_say ?_ ?_
  · refine AG_sub (W := W) (AG_say (AG_sub (W := W) ?_ (fun i h => Or.inl h)) ?_) (fun i h => Or.inl h)
    · intro i h1 h2
      rw [upd_o (by omega), upd_o (by omega)]
      exact h i h1 h2
    · rw [upd_o (by omega), upd_s]
  · rw [List.length_append, List.length_singleton, upd_s]
theorem kp_o {f : Nat → Int32} {k K i : Nat} (h : i < k) : kpF f k K i = f i := by
  unfold kpF
  rw [upd_o (by omega), upd_o (by omega)]
theorem kp_1 {f : Nat → Int32} {k K : Nat} : kpF f k K (k + 1) = nI 0 := upd_s _ _ _
theorem AG_set {f : Nat → Int32} {xs : List Int32} {W : Nat → Prop} {w : Nat} {x : Int32} (h : AG f xs (fun i => W i ∨ i = w)) (hw : w < xs.length) (hx : f w = x) : AG f (xs.set w x) W := by
  intro i h1 h2
  rw [List.length_set] at h1
  by_cases h3 : i = w
  · subst h3
    rw [hx]
    simp [List.getD_eq_getElem?_getD, h1]
  · rw [h i h1 (fun z => z.elim h2 h3)]
    simp [List.getD_eq_getElem?_getD, List.getElem?_set_ne (fun z => h3 z.symm)]
theorem set_at {xs : List Int32} {a b : Int32} : (xs ++ [a] ++ [b]).set (xs.length + 1) b = xs ++ [a] ++ [b] := by
  rw [List.set_append_right _ _ (by simp)]
  simp
/-- a part -/
theorem sim_pi {W : Nat → Prop} {w bt K m p : Nat} {xs : List Int32} {ys : List (Int32 × Int32)} {f o bk bn : Nat → Int32} {m0 : Nat} (hW : W w) (hml : ml ≤ 4096) (hp : p ≤ n) (hm : n + 1 ≤ m + 1 + p) (hx : xs.length ≤ ml) (hy : ys.length ≤ mp) (hWx : ∀ i, W i → i < xs.length) (hKb : bk (bt + 1) = nI K) (hK4 : 4 ≤ K) (hK6 : K ≤ 6) (hbn : bn (bt + 1) = nI w) (ho : OA o ys) (ha : AG f xs W) (hf : f w = nI m0) :
    match paI t n dg mp ml K p xs ys with
    | .inl e => rdL t n dg ml (2 * mp) (m + 1) p xs.length f ys.length o (bt + 1) bk bn = .inl e
    | .inr (q, xs', ys') => ∃ m' f' o' bk' bn', rdL t n dg ml (2 * mp) (m + 1) p xs.length f ys.length o (bt + 1) bk bn = bhL t n dg ml (2 * mp) m' q xs'.length f' ys'.length o' (bt + 1) bk' bn' ∧ n + 1 ≤ m' + q ∧ AG f' xs' W ∧ OA o' ys' ∧ f' w = nI (m0 + 1) ∧ (∀ i, W i → ¬ i = w → f' i = f i) ∧ (∀ i, i ≤ bt + 1 → bk' i = bk i ∧ bn' i = bn i) := by
  have hw := hWx w hW
  have b1 := rn_ge (P := blN) (t := t) hp
  have b2 := rn_le (P := blN) (t := t) hp
  have hid : rn blN t n (rn blN t n p) = rn blN t n p := rn_id
  have eb : bmp f xs.length (bn (bt + 1)) = upd f w (nI (m0 + 1)) := by rw [hbn, bmp_w hw (by omega), hf, nI_add]
  have hl : ∀ K, (xs ++ [nI K] ++ [nI 0]).length = xs.length + 2 := fun K => by simp
  unfold paI
  by_cases h0 : xs.length + 2 ≤ ml
  · rw [if_pos h0]
    by_cases hnu : K = 4 ∧ nuN (hr t n (rn blN t n p)) = true
    · obtain ⟨rfl, hnu⟩ := hnu
      rw [show decide (4 = 4) = true from rfl, lk_nu hid hnu]
      dsimp only
      rw [if_neg (by decide), if_neg (by decide)]
      cases hc : cdM t n dg mp (rn blN t n p) ys with
      | inl e =>
        refine rd_x hKb (by omega) ?_
        have := pt_x (o := o) hc
        rw [hid] at this
        rw [it_4n hnu h0, this]
      | inr r =>
        obtain ⟨q, ys'⟩ := r
        obtain ⟨o', hpt, ho', hl9⟩ := pt_r ho hc
        rw [hid] at hpt
        have b3 := cd_bd b2 hc
        dsimp only
        rw [List.length_set, hl]
        refine ⟨m, upd (kpF (upd f w (nI (m0 + 1))) xs.length 1) (xs.length + 1) (nI 1), o', bk, bn, ?_, by omega, ?_, ho', ?_, ?_, fun i _ => ⟨rfl, rfl⟩⟩
        · refine rd_bh (K' := 1) hKb (by omega) ?_
          rw [it_4n hnu h0, hpt, eb, bmp_w (by omega) (by omega), kp_1, nI_add, hl9]
        · refine AG_set ?_ (by rw [hl]; omega) (upd_s _ _ _)
          exact AG_w _ (AG_sub (AG_kp 1 (AG_w _ ha hW)) (fun i h => Or.inl h)) (Or.inr rfl)
        · rw [upd_o (by omega), kp_o hw, upd_s]
        · intro i h1 h2
          have := hWx i h1
          rw [upd_o (by omega), kp_o this, upd_o h2]
    · have hi : itS t n dg ml (2 * mp) (bt + 1) K (bn (bt + 1)) p xs.length f ys.length o = kbS t n ml (rn blN t n p) xs.length (K - 3) (bmp f xs.length (bn (bt + 1))) ys.length o := by
        by_cases h4 : K = 4
        · subst h4; exact it_4k (fun z => hnu ⟨rfl, z⟩)
        · exact it_56 (by omega)
      rw [eb] at hi
      rw [lk_ob hid (fun z => hnu ⟨of_decide_eq_true z.1, z.2⟩)]
      cases hb : obS t n (rn blN t n p) with
      | inl e =>
        exact rd_x hKb (by omega) (hi.trans (kb_x hb h0))
      | inr r =>
        obtain ⟨b, q⟩ := r
        have b3 := ob_bd b2 hb
        cases b with
        | false =>
          dsimp only
          rw [if_pos rfl, set_at]
          dsimp only
          rw [hl]
          refine ⟨m, kpF (upd f w (nI (m0 + 1))) xs.length (K - 3), o, bk, bn, ?_, by omega, AG_kp _ (AG_w _ ha hW), ho, ?_, ?_, fun i _ => ⟨rfl, rfl⟩⟩
          · exact rd_bh hKb (by omega) (hi.trans (kb_r hb h0))
          · rw [kp_o hw, upd_s]
          · intro i h1 h2
            rw [kp_o (hWx i h1), upd_o h2]
        | true =>
          dsimp only
          rw [if_neg (by decide), if_pos rfl, rd_t hKb (by omega) (hi.trans (kb_r hb h0))]
          rw [show xs.length + 2 - 1 = xs.length + 1 by omega]
          have hs := sim_si (t := t) (n := n) (dg := dg) (mp := mp) (ml := ml) (W := fun i => W i ∨ i = xs.length + 1) (w := xs.length + 1) (bt := bt + 1) (K := K - 3) (m := m) (p := q) (xs := xs ++ [nI (K - 3)] ++ [nI 0]) (ys := ys) (f := kpF (upd f w (nI (m0 + 1))) xs.length (K - 3)) (o := o) (bk := upd bk (bt + 1 + 1) (nI (K - 3))) (bn := upd bn (bt + 1 + 1) (nI (xs.length + 1))) (Or.inr rfl) hml (by omega) (by omega) (by rw [hl]; omega) hy (fun i h => by rw [hl]; rcases h with h | h; (have := hWx i h; omega); omega) (upd_s _ _ _) (by omega) (by omega) (upd_s _ _ _) ho (AG_sub (AG_kp _ (AG_w _ ha hW)) (fun i h => Or.inl h)) kp_1
          rw [hl] at hs
          cases hc : siM t n dg mp ml (K - 3) q (xs ++ [nI (K - 3)] ++ [nI 0]) ys with
          | inl e => rw [hc] at hs; exact hs
          | inr r =>
            obtain ⟨q', c, xs', ys'⟩ := r
            rw [hc] at hs
            obtain ⟨m', f', o', bk', bn', a1, a2, a3, a4, a5, a6, a7⟩ := hs
            have b5 := si_bd b3.2 (by rw [hl]; omega) hy hc
            rw [hl] at b5
            dsimp only
            rw [List.length_set]
            refine ⟨m', f', o', bk', bn', a1, a2, AG_set a3 (by omega) a5, a4, ?_, ?_, ?_⟩
            · rw [a6 w (Or.inl hW) (by omega), kp_o hw, upd_s]
            · intro i h1 h2
              have := hWx i h1
              rw [a6 i (Or.inl h1) (by omega), kp_o this, upd_o h2]
            · exact fun i h => ⟨(a7 i h).1.trans (upd_o (by omega)), (a7 i h).2.trans (upd_o (by omega))⟩
  · rw [if_neg h0]
    refine rd_x hKb (by omega) ?_
    by_cases h4 : K = 4
    · subst h4; exact it_4x h0
    · rw [it_56 (by omega)]; exact kb_7 h0
theorem sim_pa {W : Nat → Prop} {w bt K : Nat} (hW : W w) (hml : ml ≤ 4096) (hK4 : 4 ≤ K) (hK6 : K ≤ 6) :
    ∀ (F m p m0 : Nat) (xs : List Int32) (ys : List (Int32 × Int32)) (f o bk bn : Nat → Int32), p ≤ n → n + 1 ≤ F + p → n + 1 ≤ m + p → xs.length ≤ ml → ys.length ≤ mp → (∀ i, W i → i < xs.length) → bk (bt + 1) = nI K → bn (bt + 1) = nI w → OA o ys → AG f xs W → f w = nI m0 →
    OB t n dg ml mp (rdL t n dg ml (2 * mp) m p xs.length f ys.length o (bt + 1) bk bn) W w f bt bk bn (paM t n dg mp ml K F p m0 xs ys) := by
  intro F
  induction F with
  | zero => intro m p m0 xs ys f o bk bn h1 h2; omega
  | succ F ih =>
    intro m p m0 xs ys f o bk bn hp hF hm hx hy hWx hKb hbn ho ha hf
    obtain ⟨m, rfl⟩ : ∃ z, m = z + 1 := ⟨m - 1, by omega⟩
    have hs := sim_pi (t := t) (n := n) (dg := dg) (mp := mp) (ml := ml) (m := m) hW hml hp (by omega) hx hy hWx hKb hK4 hK6 hbn ho ha hf
    rw [pa_s]
    cases hc : paI t n dg mp ml K p xs ys with
    | inl e => rw [hc] at hs; exact hs
    | inr r =>
      obtain ⟨q, xs', ys'⟩ := r
      rw [hc] at hs
      obtain ⟨m', f', o', bk', bn', a1, a2, a3, a4, a5, a6, a7⟩ := hs
      have b1 := paI_bd hp hx hy hc
      have hKb' : bk' (bt + 1) = nI K := (a7 _ (Nat.le_refl _)).1.trans hKb
      have hn1 : ¬ bk' (bt + 1) = nI 1 := by rw [hKb']; rcases (show K = 4 ∨ K = 5 ∨ K = 6 by omega) with rfl | rfl | rfl <;> decide
      rw [a1, bh_s hn1]
      dsimp only
      cases hg : goM t n q with
      | inl e => exact rfl
      | inr r =>
        obtain ⟨b, q2⟩ := r
        have b4 := goM_bd b1.2.1 hg
        cases b with
        | true =>
          exact OB_f a6 (fun i h => a7 i (by omega)) _ (ih m' q2 (m0 + 1) xs' ys' f' o' bk' bn' b4.2 (by omega) (by omega) b1.2.2.2.1 b1.2.2.2.2.2 (fun i h => by have := hWx i h; omega) hKb' ((a7 _ (Nat.le_refl _)).2.trans hbn) a4 a3 a5)
        | false =>
          exact ⟨m', f', o', bk', bn', rfl, by omega, a3, a4, a5, a6, fun i h => a7 i (by omega)⟩
/-- what a shape's bracket holds -/
theorem sim_bd {W : Nat → Prop} {w bt K m p : Nat} {xs : List Int32} {ys : List (Int32 × Int32)} {f o bk bn : Nat → Int32} (hW : W w) (hml : ml ≤ 4096) (hp : p ≤ n) (hm : n + 1 ≤ m + p) (hx : xs.length ≤ ml) (hy : ys.length ≤ mp) (hWx : ∀ i, W i → i < xs.length) (hKb : bk (bt + 1) = nI K) (hK1 : 1 ≤ K) (hK6 : K ≤ 6) (hbn : bn (bt + 1) = nI w) (ho : OA o ys) (ha : AG f xs W) (hf : f w = nI 0) :
    OB t n dg ml mp (rdL t n dg ml (2 * mp) m p xs.length f ys.length o (bt + 1) bk bn) W w f bt bk bn (bdM t n dg mp ml K p xs ys) := by
  unfold bdM
  by_cases h : K < 4
  · rw [if_pos h]
    exact sim_si hW hml hp hm hx hy hWx hKb hK1 (by omega) hbn ho ha hf
  · rw [if_neg h]
    exact sim_pa hW hml (by omega) hK6 _ _ _ _ _ _ _ _ _ _ hp (by omega) hm hx hy hWx hKb hbn ho ha hf
end Sim2
