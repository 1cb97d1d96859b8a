/-! what is read is a plan of It -/
section Pl2
variable {t : Nat → Nat} {n dg mp ml : Nat}
theorem num_abs {p q : Nat} {x : Int32} (hs : numR t n dg p = .inr (q, x)) : x.toInt.natAbs ≤ 1000000000 := by
  unfold numR at hs
  split at hs
  · cases hs
  · split at hs
    · cases hs
    · split at hs
      · cases hs
      · split at hs
        · cases hs
        · next h =>
          cases hs
          split
          · rw [sb_negT (by omega)]; omega
          · rw [nI_toInt (by omega)]; omega
theorem cd_it {p q : Nat} {ys ys' : List (Int32 × Int32)} (h : cdM t n dg mp p ys = .inr (q, ys')) : ∃ x y, ys' = ys ++ [(x, y)] ∧ x.toInt.natAbs ≤ 1000000000 ∧ y.toInt.natAbs ≤ 1000000000 := by
  unfold cdM at h
  split at h
  · cases h1 : numR t n dg (rn blN t n p) with
    | inl e => rw [h1] at h; cases h
    | inr r =>
      obtain ⟨q1, x⟩ := r
      rw [h1] at h
      dsimp only at h
      cases h2 : numR t n dg (rn blN t n q1) with
      | inl e => rw [h2] at h; cases h
      | inr r =>
        obtain ⟨q2, y⟩ := r
        rw [h2] at h
        cases h
        exact ⟨x, y, rfl, num_abs h1, num_abs h2⟩
  · cases h
theorem cos_it {bt K : Nat} {seg : List Int32} {Y : List (Int32 × Int32)} (hK : K = 2 ∨ K = 8) : ∀ (F p m : Nat) (ys zs : List (Int32 × Int32)) {q m9 : Nat} {ys9 : List (Int32 × Int32)}, ys = Y ++ zs → It bt K m seg zs → cosM t n dg mp F p m ys = .inr (q, m9, ys9) → ∃ zs9, ys9 = Y ++ zs9 ∧ It bt K m9 seg zs9
  | 0, p, m, ys, zs, q, m9, ys9, _, _, h => by cases h
  | F + 1, p, m, ys, zs, q, m9, ys9, hy, hi, h => by
    rw [cos_s] at h
    cases h1 : cdM t n dg mp p ys with
    | inl e => rw [h1] at h; cases h
    | inr r =>
      obtain ⟨q1, ys1⟩ := r
      rw [h1] at h
      dsimp only at h
      obtain ⟨x, y, e1, hx, hy1⟩ := cd_it h1
      have e2 : ys1 = Y ++ (zs ++ [(x, y)]) := by rw [e1, hy, List.append_assoc]
      have hi2 := It_pt x y (by omega) hx hy1 hi
      cases h2 : goM t n q1 with
      | inl e => rw [h2] at h; cases h
      | inr r =>
        obtain ⟨b, q2⟩ := r
        rw [h2] at h
        cases b with
        | true => exact cos_it hK F q2 (m + 1) ys1 _ e2 hi2 h
        | false => cases h; exact ⟨_, e2, hi2⟩
theorem ri_it {bt : Nat} {X : List Int32} {Y : List (Int32 × Int32)} (hn : n ≤ 65536) : ∀ (F p m : Nat) (xs seg : List Int32) (ys zs : List (Int32 × Int32)) {q m9 : Nat} {xs9 : List Int32} {ys9 : List (Int32 × Int32)}, p ≤ n → ys.length ≤ mp → xs = X ++ seg → ys = Y ++ zs → It bt 3 m seg zs → riM t n dg mp ml F p m xs ys = .inr (q, m9, xs9, ys9) → ∃ seg9 zs9, xs9 = X ++ seg9 ∧ ys9 = Y ++ zs9 ∧ It bt 3 m9 seg9 zs9
  | 0, p, m, xs, seg, ys, zs, q, m9, xs9, ys9, _, _, _, _, _, h => by cases h
  | F + 1, p, m, xs, seg, ys, zs, q, m9, xs9, ys9, hp, hl, hx, hy, hi, h => by
    rw [ri_s] at h
    cases h1 : rgM t n dg mp ml p xs ys with
    | inl e => rw [h1] at h; cases h
    | inr r =>
      obtain ⟨q1, xs1, ys1⟩ := r
      have b0 := rg_bd hp hl h1
      rw [h1] at h
      dsimp only at h
      obtain ⟨c, z, hc, hc2, e1, e2, hi2⟩ : ∃ c z, 1 ≤ c ∧ c ≤ 65536 ∧ xs1 = xs ++ [nI c] ∧ ys1 = ys ++ z ∧ It (bt + 1) 8 c [] z := by
        have b1 := rn_ge (P := blN) (t := t) hp
        unfold rgM at h1
        split at h1
        · split at h1
          · next h4 =>
            have b2 := hr_lt h4 (by decide)
            cases h2 : cosM t n dg mp (n + 1) (rn blN t n p + 1) 0 ys with
            | inl e => rw [h2] at h1; cases h1
            | inr r =>
              obtain ⟨q2, c, ys2⟩ := r
              rw [h2] at h1
              have b3 := cos_bd _ _ _ _ (show rn blN t n p + 1 ≤ n by omega) hl h2
              obtain ⟨z, e, hz⟩ := cos_it (bt := bt + 1) (seg := []) (Y := ys) (Or.inr rfl) _ _ _ _ [] (by rw [List.append_nil]) (It_nil _ _) h2
              cases h1
              exact ⟨c, z, by omega, by omega, rfl, e, hz⟩
          · cases h1
        · cases h1
      have e3 : xs1 = X ++ (seg ++ [nI c]) := by rw [e1, hx, List.append_assoc]
      have e4 : ys1 = Y ++ (zs ++ z) := by rw [e2, hy, List.append_assoc]
      have hi3 := It_ring hc hc2 hi hi2
      cases h2 : goM t n q1 with
      | inl e => rw [h2] at h; cases h
      | inr r =>
        obtain ⟨b, q2⟩ := r
        have b4 := goM_bd b0.2.1 h2
        rw [h2] at h
        cases b with
        | true => exact ri_it hn F q2 (m + 1) xs1 _ ys1 _ b4.2 b0.2.2.2.2.2 e3 e4 hi3 h
        | false => cases h; exact ⟨_, _, e3, e4, hi3⟩
theorem si_it {bt K p q m9 : Nat} {xs xs9 : List Int32} {ys ys9 : List (Int32 × Int32)} (hn : n ≤ 65536) (hp : p ≤ n) (hl : ys.length ≤ mp) (hK1 : 1 ≤ K) (hK3 : K ≤ 3) (h : siM t n dg mp ml K p xs ys = .inr (q, m9, xs9, ys9)) : ∃ s z, xs9 = xs ++ s ∧ ys9 = ys ++ z ∧ It bt K m9 s z := by
  unfold siM at h
  split at h
  · next h3 =>
    subst h3
    exact ri_it hn _ _ _ _ [] _ [] hp hl (by rw [List.append_nil]) (by rw [List.append_nil]) (It_nil _ _) h
  · next h3 =>
    split at h
    · next h2 =>
      subst h2
      cases h1 : cosM t n dg mp (n + 1) p 0 ys with
      | inl e => rw [h1] at h; cases h
      | inr r =>
        obtain ⟨q1, c, ys1⟩ := r
        rw [h1] at h
        obtain ⟨z, e, hz⟩ := cos_it (bt := bt) (seg := []) (Y := ys) (Or.inl rfl) _ _ _ _ [] (by rw [List.append_nil]) (It_nil _ _) h1
        cases h
        exact ⟨[], z, by rw [List.append_nil], e, hz⟩
    · next h2 =>
      have hK : K = 1 := by omega
      subst hK
      cases h1 : cdM t n dg mp p ys with
      | inl e => rw [h1] at h; cases h
      | inr r =>
        obtain ⟨q1, ys1⟩ := r
        rw [h1] at h
        dsimp only at h
        obtain ⟨x, y, e1, hx, hy⟩ := cd_it h1
        split at h
        · cases h
          exact ⟨[], [(x, y)], by rw [List.append_nil], e1, It_pt (zs := []) x y (Or.inl rfl) hx hy (It_nil _ _)⟩
        · cases h
theorem set_2 (xs s : List Int32) (a b c : Int32) : (xs ++ [a] ++ [b] ++ s).set (xs.length + 1) c = xs ++ ([a] ++ [c] ++ s) := by
  rw [show xs ++ [a] ++ [b] ++ s = xs ++ (a :: b :: s) by simp, List.set_append_right _ _ (by omega), show xs.length + 1 - xs.length = 1 by omega]
  rfl
theorem set_3 (xs : List Int32) (a b c : Int32) : (xs ++ [a] ++ [b]).set (xs.length + 1) c = xs ++ ([a] ++ [c] ++ []) := by
  have := set_2 xs [] a b c
  rw [List.append_nil] at this
  exact this
theorem pi_it {bt K p q m : Nat} {X xs seg xs9 : List Int32} {Y ys zs ys9 : List (Int32 × Int32)} (hn : n ≤ 65536) (hp : p ≤ n) (hl : ys.length ≤ mp) (hx0 : xs.length ≤ ml) (hK : K = 4 ∨ K = 5 ∨ K = 6) (hx : xs = X ++ seg) (hy : ys = Y ++ zs) (hi : It bt K m seg zs) (h : paI t n dg mp ml K p xs ys = .inr (q, xs9, ys9)) : ∃ seg9 zs9, xs9 = X ++ seg9 ∧ ys9 = Y ++ zs9 ∧ It bt K (m + 1) seg9 zs9 := by
  have b2 := rn_le (P := blN) (t := t) hp
  have hl2 : (xs ++ [nI (K - 3)] ++ [nI 0]).length = xs.length + 2 := by simp
  obtain ⟨c, s, z, hc, e1, e2, hi2⟩ : ∃ c s z, c ≤ 65536 ∧ xs9 = xs ++ ([nI (K - 3)] ++ [nI c] ++ s) ∧ ys9 = ys ++ z ∧ It (bt + 1) (K - 3) c s z := by
    unfold paI at h
    split at h
    · next h0 =>
      cases h1 : lkM t n (decide (K = 4)) (rn blN t n p) with
      | inl e => rw [h1] at h; cases h
      | inr r =>
        obtain ⟨v, q1⟩ := r
        have b3 := lk_bd b2 h1
        rw [h1] at h
        rcases lk_v h1 with rfl | rfl | ⟨rfl, h4⟩
        · dsimp only at h
          rw [if_pos rfl] at h
          cases h
          exact ⟨0, [], [], by omega, set_3 _ _ _ _, by rw [List.append_nil], It_nil _ _⟩
        · dsimp only at h
          rw [if_neg (by decide), if_pos rfl] at h
          cases h2 : siM t n dg mp ml (K - 3) q1 (xs ++ [nI (K - 3)] ++ [nI 0]) ys with
          | inl e => rw [h2] at h; cases h
          | inr r =>
            obtain ⟨q2, c, xs2, ys2⟩ := r
            rw [h2] at h
            have b5 := si_bd b3.2 (by rw [hl2]; omega) hl h2
            obtain ⟨s, z, e1, e2, hz⟩ := si_it (bt := bt + 1) hn b3.2 hl (by omega) (by omega) h2
            cases h
            exact ⟨c, s, z, by omega, by rw [e1]; exact set_2 _ _ _ _ _, e2, hz⟩
        · have hK4 : K = 4 := of_decide_eq_true h4
          subst hK4
          dsimp only at h
          rw [if_neg (by decide), if_neg (by decide)] at h
          cases h2 : cdM t n dg mp q1 ys with
          | inl e => rw [h2] at h; cases h
          | inr r =>
            obtain ⟨q2, ys2⟩ := r
            rw [h2] at h
            obtain ⟨x, y, e1, hx1, hy1⟩ := cd_it h2
            cases h
            exact ⟨1, [], [(x, y)], by omega, set_3 _ _ _ _, e1, It_pt (zs := []) x y (Or.inl rfl) hx1 hy1 (It_nil _ _)⟩
    · cases h
  exact ⟨_, _, by rw [e1, hx, List.append_assoc], by rw [e2, hy, List.append_assoc], It_part hK hc hi hi2⟩
theorem pa_it {bt K : Nat} {X : List Int32} {Y : List (Int32 × Int32)} (hn : n ≤ 65536) (hK : K = 4 ∨ K = 5 ∨ K = 6) : ∀ (F p m : Nat) (xs seg : List Int32) (ys zs : List (Int32 × Int32)) {q m9 : Nat} {xs9 : List Int32} {ys9 : List (Int32 × Int32)}, p ≤ n → ys.length ≤ mp → xs.length ≤ ml → xs = X ++ seg → ys = Y ++ zs → It bt K m seg zs → paM t n dg mp ml K F p m xs ys = .inr (q, m9, xs9, ys9) → ∃ seg9 zs9, xs9 = X ++ seg9 ∧ ys9 = Y ++ zs9 ∧ It bt K m9 seg9 zs9
  | 0, p, m, xs, seg, ys, zs, q, m9, xs9, ys9, _, _, _, _, _, _, h => by cases h
  | F + 1, p, m, xs, seg, ys, zs, q, m9, xs9, ys9, hp, hl, hl2, hx, hy, hi, h => by
    rw [pa_s] at h
    cases h1 : paI t n dg mp ml K p xs ys with
    | inl e => rw [h1] at h; cases h
    | inr r =>
      obtain ⟨q1, xs1, ys1⟩ := r
      have b0 := paI_bd hp hl2 hl h1
      obtain ⟨seg1, zs1, e3, e4, hi3⟩ := pi_it hn hp hl hl2 hK hx hy hi h1
      rw [h1] at h
      dsimp only at h
      cases h2 : goM t n q1 with
      | inl e => rw [h2] at h; cases h
      | inr r =>
        obtain ⟨b, q2⟩ := r
        have b4 := goM_bd b0.2.1 h2
        rw [h2] at h
        cases b with
        | true => exact pa_it hn hK F q2 (m + 1) xs1 _ ys1 _ b4.2 b0.2.2.2.2.2 b0.2.2.2.1 e3 e4 hi3 h
        | false => cases h; exact ⟨_, _, e3, e4, hi3⟩
theorem bd_it {bt K p q m9 : Nat} {xs xs9 : List Int32} {ys ys9 : List (Int32 × Int32)} (hn : n ≤ 65536) (hp : p ≤ n) (hl : ys.length ≤ mp) (hl2 : xs.length ≤ ml) (hK1 : 1 ≤ K) (hK6 : K ≤ 6) (h : bdM t n dg mp ml K p xs ys = .inr (q, m9, xs9, ys9)) : ∃ s z, xs9 = xs ++ s ∧ ys9 = ys ++ z ∧ It bt K m9 s z := by
  unfold bdM at h
  split at h
  · exact si_it hn hp hl hK1 (by omega) h
  · exact pa_it hn (by omega) _ _ _ _ [] _ [] hp hl hl2 (by rw [List.append_nil]) (by rw [List.append_nil]) (It_nil _ _) h
theorem sh_it {d p q w : Nat} {b : Bool} {xs xs9 : List Int32} {ys ys9 : List (Int32 × Int32)} (hn : n ≤ 65536) (hp : p ≤ n) (hl : ys.length ≤ mp) (hl2 : xs.length ≤ ml) (h : shM t n dg mp ml d p xs ys = .inr (b, q, w, xs9, ys9)) : (b = false → ∃ k c s z, 1 ≤ k ∧ k ≤ 7 ∧ (k = 7 → d < 50) ∧ c ≤ 65536 ∧ xs9 = xs ++ ([nI k] ++ [nI c] ++ s) ∧ ys9 = ys ++ z ∧ It (d + 1) k c s z) ∧ (b = true → w = xs.length + 1 ∧ xs9 = xs ++ ([nI 7] ++ [nI 0] ++ []) ∧ ys9 = ys ∧ d < 50) := by
  have b2 := rn_le (P := blN) (t := t) hp
  have b4 := rn_le (P := leN) (t := t) b2
  have b6 := rn_le (P := blN) (t := t) b4
  unfold shM at h
  cases hk : kdM t n d (rn blN t n p) with
  | inl e => rw [hk] at h; cases h
  | inr k =>
    rw [hk] at h
    dsimp only at h
    have hk3 := kd_le hk
    have hl3 : (xs ++ [nI k] ++ [nI 0]).length = xs.length + 2 := by simp
    have e0 : xs ++ [nI k] ++ [nI 0] = xs ++ ([nI k] ++ [nI 0] ++ []) := by simp
    unfold shB at h
    split at h
    · next h0 =>
      cases h1 : lkM t n false (rn blN t n (rn leN t n (rn blN t n p))) with
      | inl e => rw [h1] at h; cases h
      | inr r =>
        obtain ⟨v, q1⟩ := r
        have b7 := lk_bd b6 h1
        rw [h1] at h
        rcases lk_v h1 with rfl | rfl | ⟨-, h4⟩
        · dsimp only at h
          rw [if_pos rfl] at h
          cases h
          exact ⟨fun _ => ⟨k, 0, [], [], hk3.1, hk3.2.1, hk3.2.2.1, by omega, e0, by rw [List.append_nil], It_nil _ _⟩, fun y => by cases y⟩
        · dsimp only at h
          rw [if_neg (by decide)] at h
          split at h
          · next h7 =>
            subst h7
            cases h
            exact ⟨fun y => (by cases y), fun _ => ⟨rfl, e0, rfl, hk3.2.2.1 rfl⟩⟩
          · next h7 =>
            cases h2 : bdM t n dg mp ml k q1 (xs ++ [nI k] ++ [nI 0]) ys with
            | inl e => rw [h2] at h; cases h
            | inr r =>
              obtain ⟨q2, c, xs2, ys2⟩ := r
              rw [h2] at h
              have b5 := bd_bd b7.2 (by rw [hl3]; omega) hl h2
              obtain ⟨s, z, e1, e2, hz⟩ := bd_it (bt := d + 1) hn b7.2 hl (by rw [hl3]; omega) hk3.1 (by omega) h2
              cases h
              exact ⟨fun _ => ⟨k, c, s, z, hk3.1, hk3.2.1, hk3.2.2.1, by omega, by rw [e1]; exact set_2 _ _ _ _ _, e2, hz⟩, fun y => by cases y⟩
        · cases h4
    · cases h
/-- the collections that are open -/
def StC (oa oc : Nat → Int32) : Nat → List Int32 → List (Int32 × Int32) → Prop
  | 0, xs, ys => xs = [] ∧ ys = []
  | d + 1, xs, ys => ∃ X Y seg zs m, StC oa oc d X Y ∧ xs = X ++ ([nI 7] ++ [nI 0] ++ seg) ∧ ys = Y ++ zs ∧ It (d + 1) 7 m seg zs ∧ oc d = nI m ∧ oa d = nI (X.length + 1) ∧ d < 50
theorem StC_c {oa oc oa' oc' : Nat → Int32} : ∀ (d : Nat) (xs : List Int32) (ys : List (Int32 × Int32)), (∀ j, j < d → oa' j = oa j ∧ oc' j = oc j) → StC oa oc d xs ys → StC oa' oc' d xs ys
  | 0, xs, ys, _, h => h
  | d + 1, xs, ys, he, ⟨X, Y, seg, zs, m, h1, h2, h3, h4, h5, h6, h7⟩ => ⟨X, Y, seg, zs, m, StC_c d X Y (fun j h => he j (by omega)) h1, h2, h3, h4, (he d (by omega)).2.trans h5, (he d (by omega)).1.trans h6, h7⟩
theorem It_7len {bt K m : Nat} {seg : List Int32} {zs : List (Int32 × Int32)} (h : It bt K m seg zs) : K = 7 → 2 * m ≤ seg.length := by
  refine It_ind (P := fun bt K m seg zs => K = 7 → 2 * m ≤ seg.length) ?_ ?_ ?_ ?_ ?_ h
  · exact fun _ _ _ => Nat.zero_le _
  · intro bt K m seg zs x y hK _ _ _ _ h7; omega
  · intro bt m c seg zs z _ _ _ _ _ _ h7; omega
  · intro bt K m c seg s zs z hK _ _ _ _ _ h7; omega
  · intro bt K m k c seg s zs z hK _ _ _ _ _ _ ih _ h7
    have := ih h7
    simp only [List.length_append, List.length_singleton]
    omega
theorem cl_it {oa : Nat → Int32} : ∀ (d q : Nat) (xs X s : List Int32) (ys Y z : List (Int32 × Int32)) (oc : Nat → Int32) (k c : Nat), StC oa oc d X Y → 1 ≤ k → k ≤ 7 → (k = 7 → d < 50) → c ≤ 65536 → xs = X ++ ([nI k] ++ [nI c] ++ s) → ys = Y ++ z → It (d + 1) k c s z → xs.length ≤ 4096 →
    match clM t n oa d q xs oc with
    | .inl _ => True
    | .inr (true, d', _, xs2, oc2) => StC oa oc2 d' xs2 ys ∧ xs2.length = xs.length
    | .inr (false, _, _, xs2, _) => It 0 0 1 xs2 ys ∧ xs2.length = xs.length := by
  intro d
  induction d with
  | zero =>
    intro q xs X s ys Y z oc k c hS hk hk7 hd hc hx hy hi hl
    obtain ⟨rfl, rfl⟩ := hS
    rw [hx, hy]
    exact ⟨It_shape (Or.inl rfl) hk hk7 hd hc (It_nil 0 0) hi, rfl⟩
  | succ d ih =>
    intro q xs X s ys Y z oc k c hS hk hk7 hd hc hx hy hi hl
    obtain ⟨X1, Y1, seg, zs, m, h1, h2, h3, h4, h5, h6, h7⟩ := hS
    have hi2 := It_shape (Or.inr rfl) hk hk7 hd hc h4 hi
    have e1 : xs = X1 ++ ([nI 7] ++ [nI 0] ++ (seg ++ ([nI k] ++ [nI c] ++ s))) := by rw [hx, h2]; simp only [List.append_assoc]
    have e2 : ys = Y1 ++ (zs ++ z) := by rw [hy, h3, List.append_assoc]
    have hln : xs.length = X1.length + (2 + (seg ++ ([nI k] ++ [nI c] ++ s)).length) := by rw [e1]; simp only [List.length_append, List.length_singleton] <;> omega
    have hm := It_7len hi2 rfl
    have e5 : oc d + nI 1 = nI (m + 1) := by rw [h5, nI_add]
    rw [cl_s]
    cases hg : goM t n q with
    | inl e => trivial
    | inr r =>
      obtain ⟨b, q2⟩ := r
      cases b with
      | true =>
        exact ⟨⟨X1, Y1, _, _, m + 1, StC_c d X1 Y1 (fun j h => ⟨rfl, upd_o (by omega)⟩) h1, e1, e2, hi2, by rw [upd_s, e5], h6, h7⟩, rfl⟩
      | false =>
        dsimp only
        rw [h6, nI_clamp (by omega), e5]
        have e6 : xs.set (X1.length + 1) (nI (m + 1)) = X1 ++ ([nI 7] ++ [nI (m + 1)] ++ (seg ++ ([nI k] ++ [nI c] ++ s))) := by
          have e7 := set_2 X1 (seg ++ ([nI k] ++ [nI c] ++ s)) (nI 7) (nI 0) (nI (m + 1))
          rw [← e7, e1]
          simp only [List.append_assoc]
        have hs := ih q2 (xs.set (X1.length + 1) (nI (m + 1))) X1 _ ys Y1 _ (upd oc d (nI (m + 1))) 7 (m + 1) (StC_c d X1 Y1 (fun j h => ⟨rfl, upd_o (by omega)⟩) h1) (by omega) (by omega) (fun _ => h7) (by omega) e6 e2 hi2 (by rw [List.length_set]; exact hl)
        rw [List.length_set] at hs
        exact hs
theorem cl_bd {oa : Nat → Int32} : ∀ (d q : Nat) (xs : List Int32) (oc : Nat → Int32) {b : Bool} {d' q2 : Nat} {xs2 : List Int32} {oc2 : Nat → Int32}, q ≤ n → clM t n oa d q xs oc = .inr (b, d', q2, xs2, oc2) → q2 ≤ n
  | 0, q, xs, oc, b, d', q2, xs2, oc2, hq, h => by cases h; exact hq
  | d + 1, q, xs, oc, b, d', q2, xs2, oc2, hq, h => by
    rw [cl_s] at h
    cases hg : goM t n q with
    | inl e => rw [hg] at h; cases h
    | inr r =>
      obtain ⟨b1, q1⟩ := r
      have b4 := goM_bd hq hg
      rw [hg] at h
      cases b1 with
      | true => cases h; exact b4.2
      | false => exact cl_bd d q1 _ _ b4.2 h
theorem ra_it (hn : n ≤ 65536) (hml : ml ≤ 4096) : ∀ (F d p : Nat) (xs : List Int32) (ys : List (Int32 × Int32)) (oa oc : Nat → Int32) {q : Nat} {xs9 : List Int32} {ys9 : List (Int32 × Int32)}, p ≤ n → xs.length ≤ ml → ys.length ≤ mp → StC oa oc d xs ys → raM t n dg mp ml F d p xs ys oa oc = .inr (q, xs9, ys9) → It 0 0 1 xs9 ys9 ∧ xs9.length ≤ ml ∧ ys9.length ≤ mp
  | 0, d, p, xs, ys, oa, oc, q, xs9, ys9, _, _, _, _, h => by cases h
  | F + 1, d, p, xs, ys, oa, oc, q, xs9, ys9, hp, hx, hy, hS, h => by
    rw [ra_s] at h
    cases h1 : shM t n dg mp ml d p xs ys with
    | inl e => rw [h1] at h; cases h
    | inr r =>
      obtain ⟨b, q1, w, xs1, ys1⟩ := r
      have b1 := sh_bd hp hx hy h1
      have hi := sh_it hn hp hy hx h1
      rw [h1] at h
      cases b with
      | true =>
        obtain ⟨e1, e2, e3, h50⟩ := hi.2 rfl
        dsimp only at h
        refine ra_it hn hml F (d + 1) q1 xs1 ys1 _ _ b1.2.1 b1.2.2.2.1 b1.2.2.2.2.2.1 ?_ h
        exact ⟨xs, ys, [], [], 0, StC_c d xs ys (fun j h => ⟨upd_o (by omega), upd_o (by omega)⟩) hS, e2, by rw [e3, List.append_nil], It_nil _ _, upd_s _ _ _, by rw [upd_s, e1], h50⟩
      | false =>
        obtain ⟨k, c, s, z, hk, hk7, hd, hc, e1, e2, hz⟩ := hi.1 rfl
        have hcl := cl_it (t := t) (n := n) (oa := oa) d q1 xs1 xs s ys1 ys z oc k c hS hk hk7 hd hc e1 e2 hz (by omega)
        dsimp only at h
        cases h2 : clM t n oa d q1 xs1 oc with
        | inl e => rw [h2] at h; cases h
        | inr r =>
          obtain ⟨b, d', q2, xs2, oc2⟩ := r
          rw [h2] at h hcl
          cases b with
          | true =>
            have b9 : q2 ≤ n := (cl_bd d q1 xs1 oc b1.2.1 h2)
            exact ra_it hn hml F d' q2 xs2 ys1 oa oc2 b9 (by rw [hcl.2]; exact b1.2.2.2.1) b1.2.2.2.2.2.1 hcl.1 h
          | false =>
            cases h
            exact ⟨hcl.1, by rw [hcl.2]; exact b1.2.2.2.1, b1.2.2.2.2.2.1⟩
/-- what the reference reads can be written -/
theorem rd_it {oa oc : Nat → Int32} {xs : List Int32} {ys : List (Int32 × Int32)} (hn : n ≤ 65536) (hml : ml ≤ 4096) (h : rdM t n dg mp ml oa oc = .inr (xs, ys)) : It 0 0 1 xs ys ∧ xs.length ≤ ml ∧ ys.length ≤ mp := by
  unfold rdM at h
  cases h1 : raM t n dg mp ml (n + 1) 0 0 [] [] oa oc with
  | inl e => rw [h1] at h; cases h
  | inr r =>
    obtain ⟨q, xs1, ys1⟩ := r
    rw [h1] at h
    dsimp only at h
    split at h
    · cases h
      exact ra_it hn hml _ _ _ _ _ _ _ (Nat.zero_le _) (Nat.zero_le _) (Nat.zero_le _) (show StC oa oc 0 [] [] from ⟨rfl, rfl⟩) h1
    · cases h
end Pl2
