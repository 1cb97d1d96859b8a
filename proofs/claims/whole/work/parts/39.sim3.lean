section Sim3
variable {t : Nat → Nat} {n dg mp ml : Nat}
theorem sim_sh {W : Nat → Prop} {d K m p : Nat} {xs : List Int32} {ys : List (Int32 × Int32)} {f f1 o bk bn : Nat → Int32} (hml : ml ≤ 4096) (hp : p ≤ n) (hm : n + 1 ≤ m + 1 + p) (hx : xs.length ≤ ml) (hy : ys.length ≤ mp) (hWx : ∀ i, W i → i < xs.length) (hKb : bk d = nI K) (hK : K = 0 ∨ K = 7) (hf1 : bmp f xs.length (bn d) = f1) (ho : OA o ys) (ha : AG f1 xs W) :
    match shM t n dg mp ml d p xs ys with
    | .inl e => rdL t n dg ml (2 * mp) (m + 1) p xs.length f ys.length o d bk bn = .inl e
    | .inr (true, q, w, xs', ys') => w = xs.length + 1 ∧ xs' = xs ++ [nI 7] ++ [nI 0] ∧ ys' = ys ∧ rdL t n dg ml (2 * mp) (m + 1) p xs.length f ys.length o d bk bn = rdL t n dg ml (2 * mp) m q xs'.length (kpF f1 xs.length 7) ys.length o (d + 1) (upd bk (d + 1) (nI 7)) (upd bn (d + 1) (nI (xs.length + 1)))
    | .inr (false, q, _, xs', ys') => ∃ m' f' o' bk' bn', rdL t n dg ml (2 * mp) (m + 1) p xs.length f ys.length o d bk bn = bhL t n dg ml (2 * mp) m' q xs'.length f' ys'.length o' d bk' bn' ∧ n + 1 ≤ m' + q ∧ AG f' xs' W ∧ OA o' ys' ∧ (∀ i, W i → f' i = f1 i) ∧ (∀ i, i ≤ d → bk' i = bk i ∧ bn' i = bn i) := by
  have b1 := rn_ge (P := blN) (t := t) hp
  have b2 := rn_le (P := blN) (t := t) hp
  have b3 := rn_ge (P := leN) (t := t) b2
  have b4 := rn_le (P := leN) (t := t) b2
  have b5 := rn_ge (P := blN) (t := t) b4
  have b6 := rn_le (P := blN) (t := t) b4
  have hl : ∀ K, (xs ++ [nI K] ++ [nI 0]).length = xs.length + 2 := fun K => by simp
  unfold shM
  cases hk : kdM t n d (rn blN t n p) with
  | inl e => exact rd_x hKb (by omega) (by rw [it_c hK, kd_x hk])
  | inr k =>
    have hk2 := kd_r hk
    have hk3 := kd_le hk
    have hi : itS t n dg ml (2 * mp) d K (bn d) p xs.length f ys.length o = kbS t n ml (rn blN t n (rn leN t n (rn blN t n p))) xs.length k f1 ys.length o := by
      rw [it_c hK, hk2.1]
      dsimp only
      rw [hk2.2, hf1]
    dsimp only
    unfold shB
    by_cases h0 : xs.length + 2 ≤ ml
    · rw [if_pos h0, lk_ob rn_id (fun z => by cases z.1)]
      cases hb : obS t n (rn blN t n (rn leN t n (rn blN t n p))) with
      | inl e => exact rd_x hKb (by omega) (hi.trans (kb_x hb h0))
      | inr r =>
        obtain ⟨b, q⟩ := r
        have b7 := ob_bd b6 hb
        cases b with
        | false =>
          dsimp only
          rw [if_pos rfl]
          dsimp only
          rw [hl]
          exact ⟨m, kpF f1 xs.length k, o, bk, bn, rd_bh hKb (by omega) (hi.trans (kb_r hb h0)), by omega, AG_kp _ ha, ho, fun i h => kp_o (hWx i h), fun i _ => ⟨rfl, rfl⟩⟩
        | true =>
          dsimp only
          rw [if_neg (by decide)]
          by_cases h7 : k = 7
          · subst h7
            rw [if_pos rfl]
            dsimp only
            refine ⟨rfl, rfl, rfl, ?_⟩
            rw [rd_t hKb (by omega) (hi.trans (kb_r hb h0)), hl, show xs.length + 2 - 1 = xs.length + 1 by omega]
          · rw [if_neg h7]
            have hs := sim_bd (t := t) (n := n) (dg := dg) (mp := mp) (ml := ml) (W := fun i => W i ∨ i = xs.length + 1) (w := xs.length + 1) (bt := d) (K := k) (m := m) (p := q) (xs := xs ++ [nI k] ++ [nI 0]) (ys := ys) (f := kpF f1 xs.length k) (o := o) (bk := upd bk (d + 1) (nI k)) (bn := upd bn (d + 1) (nI (xs.length + 1))) (Or.inr rfl) hml (by omega) (by omega) (by rw [hl]; omega) hy (fun i h => by rw [hl]; rcases h with h | h; (have := hWx i h; omega); omega) (upd_s _ _ _) (by omega) (by omega) (upd_s _ _ _) ho (AG_sub (AG_kp _ ha) (fun i h => Or.inl h)) kp_1
            rw [hl] at hs
            rw [rd_t hKb (by omega) (hi.trans (kb_r hb h0)), show xs.length + 2 - 1 = xs.length + 1 by omega]
            cases hc : bdM t n dg mp ml k q (xs ++ [nI k] ++ [nI 0]) ys with
            | inl e => rw [hc] at hs; exact hs
            | inr r =>
              obtain ⟨q', c, xs', ys'⟩ := r
              rw [hc] at hs
              obtain ⟨m', f', o', bk', bn', a1, a2, a3, a4, a5, a6, a7⟩ := hs
              have b8 := bd_bd b7.2 (by rw [hl]; omega) hy hc
              rw [hl] at b8
              dsimp only
              rw [List.length_set]
              refine ⟨m', f', o', bk', bn', a1, a2, AG_set a3 (by omega) a5, a4, ?_, ?_⟩
              · intro i h1
                have := hWx i h1
                rw [a6 i (Or.inl h1) (by omega), kp_o this]
              · exact fun i h => ⟨(a7 i h).1.trans (upd_o (by omega)), (a7 i h).2.trans (upd_o (by omega))⟩
    · rw [if_neg h0]
      exact rd_x hKb (by omega) (hi.trans (kb_7 h0))
/-- the places of the counts that are open -/
def Wd (pl : Nat → Nat) (d : Nat) : Nat → Prop := fun i => ∃ j, j < d ∧ i = pl j
theorem Wd_s {pl : Nat → Nat} {d i : Nat} : Wd pl (d + 1) i → Wd pl d i ∨ i = pl d := by
  rintro ⟨j, h1, h2⟩
  by_cases h : j = d
  · exact Or.inr (by rw [h2, h])
  · exact Or.inl ⟨j, by omega, h2⟩
theorem sim_cl {c L m : Nat} {f o bk bn oa : Nat → Int32} {pl : Nat → Nat} (hL : L ≤ 4096) :
    ∀ (d q : Nat) (xs : List Int32) (oc : Nat → Int32), q ≤ n → xs.length = L → (∀ j, j < d → oa j = nI (pl j) ∧ pl j < L) → (∀ i j, i < j → j < d → pl i < pl j) → (∀ j, j < d → bk (j + 1) = nI 7) → (∀ j, j < d → f (pl j) = oc j + nI 1) → AG f xs (Wd pl d) →
    match clM t n oa d q xs oc with
    | .inl e => bhL t n dg ml (2 * mp) m q L f c o d bk bn = .inl e
    | .inr (true, d', q2, xs2, oc2) => bhL t n dg ml (2 * mp) m q L f c o d bk bn = rdL t n dg ml (2 * mp) m q2 L f c o d' bk bn ∧ 1 ≤ d' ∧ d' ≤ d ∧ q < q2 ∧ q2 ≤ n ∧ xs2.length = L ∧ AG f xs2 (Wd pl d') ∧ (∀ j, j + 1 = d' → f (pl j) = oc2 j) ∧ (∀ j, j + 1 < d' → f (pl j) = oc2 j + nI 1)
    | .inr (false, _, q2, xs2, _) => bhL t n dg ml (2 * mp) m q L f c o d bk bn = .inr (q2, L, f, c, o) ∧ q2 ≤ n ∧ xs2.length = L ∧ AG f xs2 (fun _ => False) := by
  intro d
  induction d with
  | zero =>
    intro q xs oc hq hx h1 h2 h3 h4 ha
    exact ⟨rfl, hq, hx, AG_sub ha (fun i h => by obtain ⟨j, h, -⟩ := h; exact absurd h (Nat.not_lt_zero _))⟩
  | succ d ih =>
    intro q xs oc hq hx h1 h2 h3 h4 ha
    have hn1 : ¬ bk (d + 1) = nI 1 := by rw [h3 d (by omega)]; decide
    rw [cl_s, bh_s hn1]
    have hd := h1 d (by omega)
    cases hg : goM t n q with
    | inl e => exact rfl
    | inr r =>
      obtain ⟨b, q2⟩ := r
      have b4 := goM_bd hq hg
      cases b with
      | true =>
        refine ⟨rfl, by omega, Nat.le_refl _, b4.1, b4.2, hx, ha, ?_, ?_⟩
        · intro j hj
          have : j = d := by omega
          subst this
          rw [upd_s]
          exact h4 j (by omega)
        · intro j hj
          rw [upd_o (by omega)]
          exact h4 j (by omega)
      | false =>
        dsimp only
        rw [hd.1, nI_clamp (by omega)]
        have := ih q2 (xs.set (pl d) (oc d + nI 1)) (upd oc d (oc d + nI 1)) b4.2 (by rw [List.length_set]; exact hx) (fun j h => h1 j (by omega)) (fun i j h h' => h2 i j h (by omega)) (fun j h => h3 j (by omega)) (fun j h => by rw [upd_o (by omega)]; exact h4 j (by omega)) (AG_set (AG_sub ha (fun i h => Wd_s h)) (by omega) (h4 d (by omega)))
        cases hc : clM t n oa d q2 (xs.set (pl d) (oc d + nI 1)) (upd oc d (oc d + nI 1)) with
        | inl e => rw [hc] at this; exact this
        | inr r =>
          obtain ⟨b, d', q3, xs2, oc2⟩ := r
          rw [hc] at this
          cases b with
          | true =>
            obtain ⟨a1, a2, a3, a4, a5, a6, a7, a8, a9⟩ := this
            exact ⟨a1, a2, by omega, by omega, a5, a6, a7, a8, a9⟩
          | false => exact this
theorem sim_ra (hml : ml ≤ 4096) :
    ∀ (F m d p : Nat) (xs : List Int32) (ys : List (Int32 × Int32)) (oa oc f o bk bn : Nat → Int32) (pl : Nat → Nat), p ≤ n → n + 1 ≤ F + p → n + 1 ≤ m + p → xs.length ≤ ml → ys.length ≤ mp → bk 0 = nI 0 → bn 0 = -1 → (∀ j, j < d → oa j = nI (pl j) ∧ pl j < xs.length) → (∀ i j, i < j → j < d → pl i < pl j) → (∀ j, j < d → bk (j + 1) = nI 7 ∧ bn (j + 1) = oa j) → (∀ j, j + 1 = d → f (pl j) = oc j) → (∀ j, j + 1 < d → f (pl j) = oc j + nI 1) → AG f xs (Wd pl d) → OA o ys →
    match raM t n dg mp ml F d p xs ys oa oc with
    | .inl e => rdL t n dg ml (2 * mp) m p xs.length f ys.length o d bk bn = .inl e
    | .inr (q, xs', ys') => q ≤ n ∧ ∃ f' o', rdL t n dg ml (2 * mp) m p xs.length f ys.length o d bk bn = .inr (q, xs'.length, f', ys'.length, o') ∧ AG f' xs' (fun _ => False) ∧ OA o' ys' := by
  intro F
  induction F with
  | zero => intro m d p xs ys oa oc f o bk bn pl h1 h2; omega
  | succ F ih =>
    intro m d p xs ys oa oc f o bk bn pl hp hF hm hx hy hk0 hn0 hpl hmo hbk hf hf' ha ho
    obtain ⟨m, rfl⟩ : ∃ z, m = z + 1 := ⟨m - 1, by omega⟩
    have hWx : ∀ i, Wd pl d i → i < xs.length := fun i ⟨j, h1, h2⟩ => by rw [h2]; exact (hpl j h1).2
    obtain ⟨f1, e1, g1, g2⟩ : ∃ f1, bmp f xs.length (bn d) = f1 ∧ AG f1 xs (Wd pl d) ∧ ∀ j, j < d → f1 (pl j) = oc j + nI 1 := by
      cases d with
      | zero => exact ⟨f, by rw [hn0, bmp_n], ha, fun j h => absurd h (Nat.not_lt_zero _)⟩
      | succ d =>
        have hd := hpl d (by omega)
        refine ⟨_, by rw [(hbk d (by omega)).2, hd.1, bmp_w hd.2 (by omega)], AG_w _ ha ⟨d, by omega, rfl⟩, ?_⟩
        intro j hj
        by_cases h : j = d
        · subst h
          rw [upd_s, hf j rfl]
        · rw [upd_o (by have := hmo j d (by omega) (by omega); omega), hf' j (by omega)]
    obtain ⟨K, hKb, hK⟩ : ∃ K, bk d = nI K ∧ (K = 0 ∨ K = 7) := by
      cases d with
      | zero => exact ⟨0, hk0, Or.inl rfl⟩
      | succ d => exact ⟨7, (hbk d (by omega)).1, Or.inr rfl⟩
    have hs := sim_sh (t := t) (n := n) (dg := dg) (mp := mp) (ml := ml) (m := m) hml hp (by omega) hx hy hWx hKb hK e1 ho g1
    rw [ra_s]
    cases hc : shM t n dg mp ml d p xs ys with
    | inl e => rw [hc] at hs; exact hs
    | inr r =>
      obtain ⟨b, q, w, xs', ys'⟩ := r
      rw [hc] at hs
      have b1 := sh_bd hp hx hy hc
      cases b with
      | true =>
        obtain ⟨rfl, rfl, rfl, a4⟩ := hs
        rw [a4]
        have hl : (xs ++ [nI 7] ++ [nI 0]).length = xs.length + 2 := by simp
        refine ih m (d + 1) q (xs ++ [nI 7] ++ [nI 0]) ys' _ _ (kpF f1 xs.length 7) o _ _ (fun j => if j = d then xs.length + 1 else pl j) b1.2.1 (by omega) (by omega) (by omega) hy (by rw [upd_o (by omega)]; exact hk0) (by rw [upd_o (by omega)]; exact hn0) ?_ ?_ ?_ ?_ ?_ ?_ ho
        · intro j hj
          rw [hl]
          by_cases h : j = d
          · subst h
            rw [upd_s, if_pos rfl]
            exact ⟨rfl, by omega⟩
          · rw [upd_o h, if_neg h]
            have := hpl j (by omega)
            exact ⟨this.1, by omega⟩
        · intro i j hi hj
          rw [if_neg (by omega)]
          by_cases h : j = d
          · subst h
            rw [if_pos rfl]
            have := (hpl i (by omega)).2
            omega
          · rw [if_neg h]
            exact hmo i j hi (by omega)
        · intro j hj
          by_cases h : j = d
          · subst h
            rw [upd_s, upd_s, upd_s]
            exact ⟨rfl, rfl⟩
          · rw [upd_o (by omega), upd_o (by omega), upd_o h]
            exact hbk j (by omega)
        · intro j hj
          have : j = d := by omega
          subst this
          rw [if_pos rfl, kp_1, upd_s]
        · intro j hj
          rw [if_neg (by omega), kp_o (hpl j (by omega)).2, upd_o (by omega)]
          exact g2 j (by omega)
        · refine AG_sub (AG_kp 7 g1) ?_
          rintro i ⟨j, h1, h2⟩
          exact ⟨j, by omega, by dsimp only; rw [if_neg (by omega)]; exact h2⟩
      | false =>
        obtain ⟨m', f', o', bk', bn', a1, a2, a3, a4, a5, a6⟩ := hs
        rw [a1]
        have hcl := sim_cl (t := t) (n := n) (dg := dg) (ml := ml) (mp := mp) (c := ys'.length) (L := xs'.length) (m := m') (f := f') (o := o') (bk := bk') (bn := bn') (oa := oa) (pl := pl) (by omega) d q xs' oc b1.2.1 rfl (fun j h => ⟨(hpl j h).1, by have := (hpl j h).2; omega⟩) hmo (fun j h => by rw [(a6 (j + 1) (by omega)).1]; exact (hbk j h).1) (fun j h => by rw [a5 _ ⟨j, h, rfl⟩]; exact g2 j h) a3
        dsimp only
        cases hd : clM t n oa d q xs' oc with
        | inl e => rw [hd] at hcl; exact hcl
        | inr r =>
          obtain ⟨b, d', q2, xs2, oc2⟩ := r
          rw [hd] at hcl
          cases b with
          | true =>
            obtain ⟨c1, c2, c3, c4, c5, c6, c7, c8, c9⟩ := hcl
            rw [c1, ← c6]
            exact ih m' d' q2 xs2 ys' oa oc2 f' o' bk' bn' pl c5 (by omega) (by omega) (by omega) b1.2.2.2.2.2.1 (by rw [(a6 0 (by omega)).1]; exact hk0) (by rw [(a6 0 (by omega)).2]; exact hn0) (fun j h => ⟨(hpl j (by omega)).1, by have := (hpl j (by omega)).2; omega⟩) (fun i j h h' => hmo i j h (by omega)) (fun j h => by rw [(a6 (j + 1) (by omega)).1, (a6 (j + 1) (by omega)).2]; exact hbk j (by omega)) c8 c9 c7 a4
          | false =>
            obtain ⟨c1, c2, c3, c4⟩ := hcl
            exact ⟨c2, f', o', by rw [c1, c3], c4, a4⟩
/-- the class reads what the reference reads -/
theorem sim_rd (t : Nat → Nat) (n dg mp ml : Nat) (hml : ml ≤ 4096) (f o bk bn oa oc : Nat → Int32) : match rdM t n dg mp ml oa oc with
    | .inl e => rdT t n dg ml (2 * mp) f o bk bn = .inl e
    | .inr (xs, ys) => ∃ f' o', rdT t n dg ml (2 * mp) f o bk bn = .inr (xs.length, f', ys.length, o') ∧ (∀ i, i < xs.length → f' i = xs.getD i 0) ∧ (∀ j, j < 2 * ys.length → o' j = pr2 ys j) := by
  have hs := sim_ra (t := t) (n := n) (dg := dg) (mp := mp) (ml := ml) hml (n + 1) (n + 1) 0 0 [] [] oa oc f o (upd bk 0 (nI 0)) (upd bn 0 (-1)) (fun _ => 0) (Nat.zero_le _) (by omega) (by omega) (Nat.zero_le _) (Nat.zero_le _) rfl rfl (fun j h => absurd h (Nat.not_lt_zero _)) (fun i j h h' => absurd h' (Nat.not_lt_zero _)) (fun j h => absurd h (Nat.not_lt_zero _)) (fun j h => by omega) (fun j h => by omega) (fun i h => absurd h (Nat.not_lt_zero _)) (fun i h => absurd h (Nat.not_lt_zero _))
  unfold rdM rdT rdI
  cases hc : raM t n dg mp ml (n + 1) 0 0 [] [] oa oc with
  | inl e =>
    rw [hc] at hs
    dsimp only at hs ⊢
    rw [show rdL t n dg ml (2 * mp) (n + 1) 0 0 f 0 o 0 (upd bk 0 (nI 0)) (upd bn 0 (-1)) = .inl e from hs]
  | inr r =>
    obtain ⟨q, xs, ys⟩ := r
    rw [hc] at hs
    obtain ⟨hq, f', o', e1, h1, h2⟩ := hs
    have b2 := rn_le (P := blN) (t := t) hq
    rw [show rdL t n dg ml (2 * mp) (n + 1) 0 0 f 0 o 0 (upd bk 0 (nI 0)) (upd bn 0 (-1)) = _ from e1]
    dsimp only
    by_cases h : rn blN t n q = n
    · rw [if_pos h, if_neg (by omega)]
      exact ⟨f', o', rfl, fun i hi => h1 i hi (fun z => z), h2⟩
    · rw [if_neg h, if_pos (by omega)]
end Sim3
