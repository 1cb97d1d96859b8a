/-! reading: the class and the reference come to the same -/
section Sim
variable {t : Nat → Nat} {n dg mp ml : Nat}
/-- the class behind an item -/
def bhL (t : Nat → Nat) (n dg np no m q k : Nat) (f : Nat → Int32) (c : Nat) (o : Nat → Int32) (bt : Nat) (bk bn : Nat → Int32) : (Nat × Nat) ⊕ (Nat × Nat × (Nat → Int32) × Nat × (Nat → Int32)) := match goS t n bk bt q with
  | .inl e => .inl e
  | .inr (true, q2, bt') => rdL t n dg np no m q2 k f c o bt' bk bn
  | .inr (false, q2, _) => .inr (q2, k, f, c, o)
theorem rd_bh {np no j p k c bt K K' q k' c' : Nat} {f o f' o' bk bn : Nat → Int32} (hKb : bk bt = nI K) (hK8 : K ≤ 8) (h : itS t n dg np no bt K (bn bt) p k f c o = .inr (false, K', q, k', f', c', o')) : rdL t n dg np no (j + 1) p k f c o bt bk bn = bhL t n dg np no j q k' f' c' o' bt bk bn := by
  simp only [rdL]
  rw [hKb, nI_clamp (by omega), h]
  rfl
theorem bh_s {np no m q k c bt : Nat} {f o bk bn : Nat → Int32} (h1 : ¬ bk (bt + 1) = nI 1) : bhL t n dg np no m q k f c o (bt + 1) bk bn = match goM t n q with
    | .inl e => .inl e
    | .inr (true, q2) => rdL t n dg np no m q2 k f c o (bt + 1) bk bn
    | .inr (false, q2) => bhL t n dg np no m q2 k f c o bt bk bn := by
  unfold bhL goM
  rw [go_s]
  by_cases h4 : hr t n (rn blN t n q) = 44
  · rw [if_pos ⟨h4, h1⟩, if_pos h4]
  · rw [if_neg (fun z => h4 z.1), if_neg h4]
    by_cases h5 : hr t n (rn blN t n q) = 41
    · rw [if_pos h5, if_pos h5]
    · rw [if_neg h5, if_neg h5]
theorem bh_1 {np no m q k c bt : Nat} {f o bk bn : Nat → Int32} (h1 : bk (bt + 1) = nI 1) : bhL t n dg np no m q k f c o (bt + 1) bk bn = if hr t n (rn blN t n q) = 41 then bhL t n dg np no m (rn blN t n q + 1) k f c o bt bk bn else .inl (uxp (hr t n (rn blN t n q)), rn blN t n q) := by
  unfold bhL
  rw [go_s, if_neg (fun z => z.2 h1)]
  by_cases h5 : hr t n (rn blN t n q) = 41
  · rw [if_pos h5, if_pos h5]
  · rw [if_neg h5, if_neg h5]
theorem bmp_w {f : Nat → Int32} {k w : Nat} (h : w < k) (hk : k < 2 ^ 31) : bmp f k (nI w) = upd f w (f w + nI 1) := bmp_nI h hk
theorem bmp_n (f : Nat → Int32) (k : Nat) : bmp f k (-1) = f := bmp_neg (by decide)
theorem upd_s (f : Nat → Int32) (k : Nat) (x : Int32) : upd f k x k = x := if_pos rfl
theorem upd_o {f : Nat → Int32} {k i : Nat} {x : Int32} (h : ¬ i = k) : upd f k x i = f i := if_neg h
/-- the plan so far, but where counts are open; the points so far -/
def AG (f : Nat → Int32) (xs : List Int32) (W : Nat → Prop) : Prop := ∀ i, i < xs.length → ¬ W i → f i = xs.getD i 0
def OA (o : Nat → Int32) (ys : List (Int32 × Int32)) : Prop := ∀ j, j < 2 * ys.length → o j = pr2 ys j
theorem OA_add {o : Nat → Int32} {ys : List (Int32 × Int32)} {x y : Int32} (h : OA o ys) : OA (upd (upd o (2 * ys.length) x) (2 * ys.length + 1) y) (ys ++ [(x, y)]) := by
  intro j hj
  rw [List.length_append, List.length_singleton] at hj
  by_cases h1 : j = 2 * ys.length + 1
  · subst h1
    rw [upd_s]
    unfold pr2
    rw [if_neg (by omega), show (2 * ys.length + 1) / 2 = ys.length by omega]
    simp [List.getD_eq_getElem?_getD]
  · rw [upd_o h1]
    by_cases h2 : j = 2 * ys.length
    · subst h2
      rw [upd_s]
      unfold pr2
      rw [if_pos (by omega), show 2 * ys.length / 2 = ys.length by omega]
      simp [List.getD_eq_getElem?_getD]
    · rw [upd_o h2, h j (by omega)]
      unfold pr2
      simp [List.getD_eq_getElem?_getD, List.getElem?_append_left (show j / 2 < ys.length by omega)]
theorem pt_x {p : Nat} {o : Nat → Int32} {ys : List (Int32 × Int32)} {e : Nat × Nat} (h : cdM t n dg mp p ys = .inl e) : ptS t n dg (2 * mp) (rn blN t n p) ys.length o = .inl e := by
  unfold cdM at h
  unfold ptS
  by_cases h0 : ys.length + 1 ≤ mp
  · rw [if_pos h0] at h
    rw [if_pos (by omega)]
    cases h1 : numR t n dg (rn blN t n p) with
    | inl e => rw [h1] at h; cases h; rfl
    | inr r =>
      obtain ⟨q1, x⟩ := r
      rw [h1] at h
      dsimp only at h ⊢
      cases h2 : numR t n dg (rn blN t n q1) with
      | inl e => rw [h2] at h; cases h; rfl
      | inr r => obtain ⟨q2, y⟩ := r; rw [h2] at h; cases h
  · rw [if_neg h0] at h
    rw [if_neg (by omega)]
    cases h; rfl
theorem pt_r {p q : Nat} {o : Nat → Int32} {ys ys' : List (Int32 × Int32)} (ho : OA o ys) (h : cdM t n dg mp p ys = .inr (q, ys')) : ∃ o', ptS t n dg (2 * mp) (rn blN t n p) ys.length o = .inr (q, o') ∧ OA o' ys' ∧ ys'.length = ys.length + 1 := by
  unfold cdM at h
  unfold ptS
  by_cases h0 : ys.length + 1 ≤ mp
  · rw [if_pos h0] at h
    rw [if_pos (by omega)]
    cases h1 : numR t n dg (rn blN t n p) with
    | inl e => rw [h1] at h; cases h
    | inr r =>
      obtain ⟨q1, x⟩ := r
      rw [h1] at h
      dsimp only at h ⊢
      cases h2 : numR t n dg (rn blN t n q1) with
      | inl e => rw [h2] at h; cases h
      | inr r =>
        obtain ⟨q2, y⟩ := r
        rw [h2] at h
        cases h
        exact ⟨_, rfl, OA_add ho, by rw [List.length_append, List.length_singleton]⟩
  · rw [if_neg h0] at h
    cases h
/-- the class behind a bracket that the reference has read -/
def OB (t : Nat → Nat) (n dg ml mp : Nat) (R : (Nat × Nat) ⊕ (Nat × Nat × (Nat → Int32) × Nat × (Nat → Int32))) (W : Nat → Prop) (w : Nat) (f : Nat → Int32) (bt : Nat) (bk bn : Nat → Int32) : ((Nat × Nat) ⊕ (Nat × Nat × List Int32 × List (Int32 × Int32))) → Prop
  | .inl e => R = .inl e
  | .inr (q, m9, xs9, ys9) => ∃ m' f' o' bk' bn', R = bhL t n dg ml (2 * mp) m' q xs9.length f' ys9.length o' bt bk' bn' ∧ n + 1 ≤ m' + q ∧ AG f' xs9 W ∧ OA o' ys9 ∧ f' w = nI m9 ∧ (∀ i, W i → ¬ i = w → f' i = f i) ∧ (∀ i, i ≤ bt → bk' i = bk i ∧ bn' i = bn i)
theorem OB_f {R : (Nat × Nat) ⊕ (Nat × Nat × (Nat → Int32) × Nat × (Nat → Int32))} {W : Nat → Prop} {w bt : Nat} {f f1 bk bn bk1 bn1 : Nat → Int32} (hf : ∀ i, W i → ¬ i = w → f1 i = f i) (hb : ∀ i, i ≤ bt → bk1 i = bk i ∧ bn1 i = bn i) : ∀ r, OB t n dg ml mp R W w f1 bt bk1 bn1 r → OB t n dg ml mp R W w f bt bk bn r
  | .inl e, h => h
  | .inr (q, m9, xs9, ys9), h => by
    obtain ⟨m', f', o', bk', bn', a1, a2, a3, a4, a5, a6, a7⟩ := h
    exact ⟨m', f', o', bk', bn', a1, a2, a3, a4, a5, fun i h1 h2 => (a6 i h1 h2).trans (hf i h1 h2), fun i h1 => ⟨(a7 i h1).1.trans (hb i h1).1, (a7 i h1).2.trans (hb i h1).2⟩⟩
def liC (xs : List Int32) : (Nat × Nat) ⊕ (Nat × Nat × List (Int32 × Int32)) → (Nat × Nat) ⊕ (Nat × Nat × List Int32 × List (Int32 × Int32))
  | .inl e => .inl e
  | .inr (q, m, ys) => .inr (q, m, xs, ys)
theorem AG_w {f : Nat → Int32} {xs : List Int32} {W : Nat → Prop} {w : Nat} (x : Int32) (h : AG f xs W) (hw : W w) : AG (upd f w x) xs W := by
  intro i h1 h2
  rw [upd_o (fun z => h2 (by rw [z]; exact hw))]
  exact h i h1 h2
theorem sim_cos {W : Nat → Prop} {w bt K : Nat} {bk bn : Nat → Int32} {xs : List Int32} (hW : W w) (hw : w < xs.length) (hx : xs.length ≤ ml) (hml : ml ≤ 4096) (hKb : bk (bt + 1) = nI K) (hK : K = 2 ∨ K = 8) (hbn : bn (bt + 1) = nI w) :
    ∀ (F m p m0 : Nat) (ys : List (Int32 × Int32)) (f o : Nat → Int32), p ≤ n → n + 1 ≤ F + p → n + 1 ≤ m + p → OA o ys → AG f xs W → f w = nI m0 →
    OB t n dg ml mp (rdL t n dg ml (2 * mp) m p xs.length f ys.length o (bt + 1) bk bn) W w f bt bk bn (liC xs (cosM t n dg mp F p m0 ys)) := by
  have h1 : ¬ bk (bt + 1) = nI 1 := by rw [hKb]; rcases hK with rfl | rfl <;> decide
  intro F
  induction F with
  | zero => intro m p m0 ys f o h1 h2; omega
  | succ F ih =>
    intro m p m0 ys f o hp hF hm ho ha hf
    obtain ⟨m, rfl⟩ : ∃ z, m = z + 1 := ⟨m - 1, by omega⟩
    rw [cos_s]
    cases hc : cdM t n dg mp p ys with
    | inl e =>
      show _ = _
      exact rd_x hKb (by omega) (by rw [it_d (by omega), pt_x hc])
    | inr r =>
      obtain ⟨q, ys'⟩ := r
      obtain ⟨o', hpt, ho', hl⟩ := pt_r ho hc
      have b1 := cd_bd hp hc
      have e1 : rdL t n dg ml (2 * mp) (m + 1) p xs.length f ys.length o (bt + 1) bk bn = bhL t n dg ml (2 * mp) m q xs.length (upd f w (nI (m0 + 1))) ys'.length o' (bt + 1) bk bn := by
        refine rd_bh (K' := 0) hKb (by omega) ?_
        rw [it_d (by omega), hpt, hbn, bmp_w hw (by omega), hf, nI_add, hl]
      rw [e1, bh_s h1]
      dsimp only
      cases hg : goM t n q with
      | inl e => exact rfl
      | inr r =>
        obtain ⟨b, q2⟩ := r
        have b2 := goM_bd b1.2.1 hg
        cases b with
        | true =>
          exact OB_f (fun i _ h => upd_o h) (fun i _ => ⟨rfl, rfl⟩) _ (ih m q2 (m0 + 1) ys' _ o' b2.2 (by omega) (by omega) ho' (AG_w _ ha hW) (upd_s _ _ _))
        | false =>
          exact ⟨m, _, o', bk, bn, rfl, by omega, AG_w _ ha hW, ho', upd_s _ _ _, fun i _ h => upd_o h, fun i _ => ⟨rfl, rfl⟩⟩
theorem AG_say {f : Nat → Int32} {xs : List Int32} {W : Nat → Prop} {x : Int32} (h : AG f xs (fun i => W i ∨ i = xs.length)) (hx : f xs.length = x) : AG f (xs ++ [x]) W := by
  intro i h1 h2
  rw [List.length_append, List.length_singleton] at h1
  by_cases h3 : i = xs.length
  · subst h3
    rw [hx]
    simp [List.getD_eq_getElem?_getD]
  · rw [h i (by omega) (fun z => z.elim h2 h3)]
    simp [List.getD_eq_getElem?_getD, List.getElem?_append_left (show i < xs.length by omega)]
theorem AG_sub {f : Nat → Int32} {xs : List Int32} {W V : Nat → Prop} (h : AG f xs W) (hv : ∀ i, W i → V i) : AG f xs V := fun i h1 h2 => h i h1 (fun z => h2 (hv i z))
theorem AG_pre {f : Nat → Int32} {xs : List Int32} {W : Nat → Prop} {x : Int32} (h : AG f (xs ++ [x]) W) : AG f xs W := by
  intro i h1 h2
  rw [h i (by rw [List.length_append]; omega) h2]
  simp [List.getD_eq_getElem?_getD, List.getElem?_append_left h1]
theorem AG_new {f : Nat → Int32} {xs : List Int32} {W : Nat → Prop} (x : Int32) (h : AG f xs W) : AG (upd f xs.length x) xs W := by
  intro i h1 h2
  rw [upd_o (by omega)]
  exact h i h1 h2
theorem sim_ri {W : Nat → Prop} {w bt : Nat} (hW : W w) (hml : ml ≤ 4096) :
    ∀ (F m p m0 : Nat) (xs : List Int32) (ys : List (Int32 × Int32)) (f o bk bn : Nat → Int32), p ≤ n → n + 1 ≤ F + p → n + 1 ≤ m + p → xs.length ≤ ml → ys.length ≤ mp → (∀ i, W i → i < xs.length) → bk (bt + 1) = nI 3 → bn (bt + 1) = nI w → OA o ys → AG f xs W → f w = nI m0 →
    OB t n dg ml mp (rdL t n dg ml (2 * mp) m p xs.length f ys.length o (bt + 1) bk bn) W w f bt bk bn (riM t n dg mp ml F p m0 xs ys) := by
  intro F
  induction F with
  | zero => intro m p m0 xs ys f o bk bn h1 h2; omega
  | succ F ih =>
    intro m p m0 xs ys f o bk bn hp hF hm hx hy hWx hKb hbn ho ha hf
    have hw := hWx w hW
    obtain ⟨m, rfl⟩ : ∃ z, m = z + 1 := ⟨m - 1, by omega⟩
    have b1 := rn_ge (P := blN) (t := t) hp
    rw [ri_s]
    unfold rgM
    by_cases h0 : xs.length + 1 ≤ ml
    · rw [if_pos h0]
      by_cases h4 : hr t n (rn blN t n p) = 40
      · rw [if_pos h4]
        have b2 := hr_lt h4 (by decide)
        have e1 : rdL t n dg ml (2 * mp) (m + 1) p xs.length f ys.length o (bt + 1) bk bn = rdL t n dg ml (2 * mp) m (rn blN t n p + 1) (xs ++ [nI 0]).length (upd (upd f w (nI (m0 + 1))) xs.length (nI 0)) ys.length o (bt + 1 + 1) (upd bk (bt + 1 + 1) (nI 8)) (upd bn (bt + 1 + 1) (nI xs.length)) := by
          rw [rd_t (K' := 8) hKb (by omega) (by rw [it_3, if_pos h0, if_pos h4, hbn, bmp_w hw (by omega), hf, nI_add])]
          rw [show xs.length + 1 - 1 = xs.length by omega, List.length_append, List.length_singleton]
        rw [e1]
        have hs := sim_cos (t := t) (n := n) (dg := dg) (mp := mp) (ml := ml) (W := fun i => W i ∨ i = xs.length) (w := xs.length) (bt := bt + 1) (K := 8) (bk := upd bk (bt + 1 + 1) (nI 8)) (bn := upd bn (bt + 1 + 1) (nI xs.length)) (xs := xs ++ [nI 0]) (Or.inr rfl) (by simp) (by simp; omega) hml (upd_s _ _ _) (Or.inr rfl) (upd_s _ _ _) (n + 1) m (rn blN t n p + 1) 0 ys (upd (upd f w (nI (m0 + 1))) xs.length (nI 0)) o (by omega) (by omega) (by omega) ho
          (AG_say (AG_sub (AG_new _ (AG_w _ ha hW)) (fun i h => Or.inl (Or.inl h))) (upd_s _ _ _)) (upd_s _ _ _)
        cases hc : cosM t n dg mp (n + 1) (rn blN t n p + 1) 0 ys with
        | inl e => rw [hc] at hs; exact hs
        | inr r =>
          obtain ⟨q, c, ys'⟩ := r
          rw [hc] at hs
          obtain ⟨m', f', o', bk', bn', a1, a2, a3, a4, a5, a6, a7⟩ := hs
          have b3 := cos_bd _ _ _ _ (show rn blN t n p + 1 ≤ n by omega) hy hc
          rw [a1, bh_s (by rw [(a7 _ (Nat.le_refl _)).1, upd_o (by omega), hKb]; decide)]
          have e2 : (xs ++ [nI 0]).length = (xs ++ [nI c]).length := by simp
          have g1 : AG f' (xs ++ [nI c]) W := AG_say (AG_pre a3) a5
          have g2 : f' w = nI (m0 + 1) := by rw [a6 w (Or.inl hW) (by omega), upd_o (by omega), upd_s]
          have g3 : ∀ i, W i → ¬ i = w → f' i = f i := fun i h h2 => by rw [a6 i (Or.inl h) (by have := hWx i h; omega), upd_o (by have := hWx i h; omega), upd_o h2]
          have g4 : ∀ i, i ≤ bt + 1 → bk' i = bk i ∧ bn' i = bn i := fun i h => ⟨(a7 i h).1.trans (upd_o (by omega)), (a7 i h).2.trans (upd_o (by omega))⟩
          dsimp only
          cases hg : goM t n q with
          | inl e => exact rfl
          | inr r =>
            obtain ⟨b, q2⟩ := r
            have b4 := goM_bd b3.2.1 hg
            rw [e2]
            cases b with
            | true =>
              exact OB_f g3 (fun i h => g4 i (by omega)) _ (ih m' q2 (m0 + 1) (xs ++ [nI c]) ys' f' o' bk' bn' b4.2 (by omega) (by omega) (by simp; omega) b3.2.2.2.1 (fun i h => by have := hWx i h; simp; omega) ((g4 _ (Nat.le_refl _)).1.trans hKb) ((g4 _ (Nat.le_refl _)).2.trans hbn) a4 g1 g2)
            | false =>
              exact ⟨m', f', o', bk', bn', rfl, by omega, g1, a4, g2, g3, fun i h => g4 i (by omega)⟩
      · rw [if_neg h4]
        show _ = _
        exact rd_x hKb (by omega) (by rw [it_3, if_pos h0, if_neg h4])
    · rw [if_neg h0]
      show _ = _
      exact rd_x hKb (by omega) (by rw [it_3, if_neg h0])
theorem sim_si {W : Nat → Prop} {w bt K m p : Nat} {xs : List Int32} {ys : List (Int32 × Int32)} {f o bk bn : Nat → Int32} (hW : W w) (hml : ml ≤ 4096) (hp : p ≤ n) (hm : n + 1 ≤ m + p) (hx : xs.length ≤ ml) (hy : ys.length ≤ mp) (hWx : ∀ i, W i → i < xs.length) (hKb : bk (bt + 1) = nI K) (hK1 : 1 ≤ K) (hK3 : K ≤ 3) (hbn : bn (bt + 1) = nI w) (ho : OA o ys) (ha : AG f xs W) (hf : f w = nI 0) :
    OB t n dg ml mp (rdL t n dg ml (2 * mp) m p xs.length f ys.length o (bt + 1) bk bn) W w f bt bk bn (siM t n dg mp ml K p xs ys) := by
  have hw := hWx w hW
  unfold siM
  by_cases h3 : K = 3
  · subst h3
    rw [if_pos rfl]
    exact sim_ri hW hml _ _ _ _ _ _ _ _ _ _ hp (by omega) hm hx hy hWx hKb hbn ho ha hf
  · rw [if_neg h3]
    by_cases h2 : K = 2
    · subst h2
      rw [if_pos rfl]
      have hs := sim_cos (t := t) (n := n) (dg := dg) (mp := mp) (ml := ml) (bn := bn) hW hw hx hml hKb (Or.inl rfl) hbn (n + 1) m p 0 ys f o hp (by omega) hm ho ha hf
      cases hc : cosM t n dg mp (n + 1) p 0 ys with
      | inl e => rw [hc] at hs; exact hs
      | inr r => obtain ⟨q, c, ys'⟩ := r; rw [hc] at hs; exact hs
    · rw [if_neg h2]
      have hK : K = 1 := by omega
      subst hK
      obtain ⟨m, rfl⟩ : ∃ z, m = z + 1 := ⟨m - 1, by omega⟩
      cases hc : cdM t n dg mp p ys with
      | inl e =>
        show _ = _
        exact rd_x hKb (by omega) (by rw [it_d (by omega), pt_x hc])
      | inr r =>
        obtain ⟨q, ys'⟩ := r
        obtain ⟨o', hpt, ho', hl⟩ := pt_r ho hc
        have b1 := cd_bd hp hc
        have b2 := rn_ge (P := blN) (t := t) b1.2.1
        have e1 : rdL t n dg ml (2 * mp) (m + 1) p xs.length f ys.length o (bt + 1) bk bn = bhL t n dg ml (2 * mp) m q xs.length (upd f w (nI 1)) ys'.length o' (bt + 1) bk bn := by
          refine rd_bh (K' := 0) hKb (by omega) ?_
          rw [it_d (by omega), hpt, hbn, bmp_w hw (by omega), hf, nI_add, hl]
        rw [e1, bh_1 hKb]
        dsimp only
        by_cases h4 : hr t n (rn blN t n q) = 41
        · rw [if_pos h4, if_pos h4]
          exact ⟨m, _, o', bk, bn, rfl, by omega, AG_w _ ha hW, ho', upd_s _ _ _, fun i _ h => upd_o h, fun i _ => ⟨rfl, rfl⟩⟩
        · rw [if_neg h4, if_neg h4]
          exact rfl
end Sim
