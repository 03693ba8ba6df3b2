/-! the grammar of texts, on tokens -/
abbrev ae_TL : Type := List (Int32 × Nat)
abbrev ae_PR : Type := Bool × ae_TL × List Int32
def hdT : ae_TL → Int32
  | [] => -17
  | x :: _ => x.1
def hdP : ae_TL → Nat
  | [] => 0
  | x :: _ => x.2
/-- a list that ends with the end -/
def gL : ae_TL → Prop
  | [] => False
  | [x] => x.1 = -17
  | _ :: y :: l => gL (y :: l)
def bP (x : Option ae_PR) (k : ae_TL → List Int32 → Option ae_PR) : Option ae_PR := match x with
  | some (true, l, s) => k l s
  | some (false, l, _) => some (false, l, [])
  | none => none
/-- 0 either, 1 its further ones, 2 both, 3 its further ones, 4 unless, 5 sum, 6 its further ones, 7 term, 8 its further ones, 9 one -/
def pp : Nat → Nat → Nat → ae_TL → Option ae_PR
  | 0, _, _, _ => none
  | m + 1, 0, o, l => bP (pp m 2 o l) (fun l1 s1 => bP (pp m 1 o l1) (fun l2 s2 => some (true, l2, s1 ++ s2)))
  | m + 1, 1, o, l => if hdT l = -1 then bP (pp m 2 o l.tail) (fun l1 s1 => bP (pp m 1 o l1) (fun l2 s2 => some (true, l2, s1 ++ -1 :: s2))) else some (true, l, [])
  | m + 1, 2, o, l => bP (pp m 4 o l) (fun l1 s1 => bP (pp m 3 o l1) (fun l2 s2 => some (true, l2, s1 ++ s2)))
  | m + 1, 3, o, l => if hdT l = -2 then bP (pp m 4 o l.tail) (fun l1 s1 => bP (pp m 3 o l1) (fun l2 s2 => some (true, l2, s1 ++ -2 :: s2))) else some (true, l, [])
  | m + 1, 4, o, l => if hdT l = -3 then (if o < 5 then bP (pp m 4 (o + 1) l.tail) (fun l1 s1 => some (true, l1, s1 ++ [-3])) else some (false, l, [])) else bP (pp m 5 o l) (fun l1 s1 => if hdT l1 = -4 ∨ hdT l1 = -5 then bP (pp m 5 o l1.tail) (fun l2 s2 => some (true, l2, s1 ++ (s2 ++ [hdT l1]))) else some (true, l1, s1))
  | m + 1, 5, o, l => bP (pp m 7 o l) (fun l1 s1 => bP (pp m 6 o l1) (fun l2 s2 => some (true, l2, s1 ++ s2)))
  | m + 1, 6, o, l => if hdT l = -6 ∨ hdT l = -7 then bP (pp m 7 o l.tail) (fun l1 s1 => bP (pp m 6 o l1) (fun l2 s2 => some (true, l2, s1 ++ hdT l :: s2))) else some (true, l, [])
  | m + 1, 7, o, l => bP (pp m 9 o l) (fun l1 s1 => bP (pp m 8 o l1) (fun l2 s2 => some (true, l2, s1 ++ s2)))
  | m + 1, 8, o, l => if hdT l = -8 then bP (pp m 9 o l.tail) (fun l1 s1 => bP (pp m 8 o l1) (fun l2 s2 => some (true, l2, s1 ++ -8 :: s2))) else some (true, l, [])
  | m + 1, _, o, l => if ¬ hdT l < 0 ∧ ¬ 10005 < hdT l then some (true, l.tail, [hdT l]) else if 5 ≤ o then some (false, l, []) else if hdT l = -7 then bP (pp m 9 (o + 1) l.tail) (fun l1 s1 => some (true, l1, s1 ++ [-12])) else if hdT l = -9 then bP (pp m 0 (o + 1) l.tail) (fun l1 s1 => if hdT l1 = -10 then some (true, l1.tail, s1) else some (false, l1, [])) else some (false, l, [])
theorem bP_some {x : Option ae_PR} {k : ae_TL → List Int32 → Option ae_PR} {R : ae_PR} (h : bP x k = some R) : (∃ l s, x = some (true, l, s) ∧ k l s = some R) ∨ ∃ l s, x = some (false, l, s) ∧ R = (false, l, []) := by
  unfold bP at h
  split at h
  · exact Or.inl ⟨_, _, rfl, h⟩
  · exact Or.inr ⟨_, _, rfl, (Option.some.inj h).symm⟩
  · cases h
theorem bP_ex {x : Option ae_PR} {k : ae_TL → List Int32 → Option ae_PR} (h : ∃ R, x = some R) (hk : ∀ l s, x = some (true, l, s) → ∃ R, k l s = some R) : ∃ R, bP x k = some R := by
  obtain ⟨⟨b, l, s⟩, h⟩ := h
  cases b with
  | true =>
    obtain ⟨R, hR⟩ := hk l s h
    exact ⟨R, by rw [h]; exact hR⟩
  | false => exact ⟨(false, l, []), by rw [h]; rfl⟩
/-- r is what is left of l, k tokens or more were passed -/
def pH (l r : ae_TL) (k : Nat) : Prop := k + r.length ≤ l.length ∧ (gL l → gL r) ∧ ∃ p, l = p ++ r
theorem pH_refl (l : ae_TL) : pH l l 0 := ⟨by omega, id, [], rfl⟩
theorem pH_trans {l r q : ae_TL} {j k : Nat} (h : pH l r j) (h2 : pH r q k) : pH l q (j + k) := by
  obtain ⟨a1, a2, p1, a3⟩ := h
  obtain ⟨b1, b2, p2, b3⟩ := h2
  exact ⟨by omega, fun g => b2 (a2 g), p1 ++ p2, by rw [a3, b3, List.append_assoc]⟩
theorem pH_le {l r : ae_TL} {j k : Nat} (h : pH l r j) (hk : k ≤ j) : pH l r k := ⟨by have := h.1; omega, h.2.1, h.2.2⟩
theorem pH_tail {l : ae_TL} (h : ¬ hdT l = -17) : pH l l.tail 1 := by
  match l, h with
  | [], h => exact absurd rfl h
  | [x], h => exact ⟨Nat.le_refl _, fun g => absurd g h, [x], rfl⟩
  | x :: y :: l, h => exact ⟨by simp only [List.tail_cons, List.length_cons]; omega, id, [x], rfl⟩
theorem gL_one {l : ae_TL} (h : gL l) (hl : l.length ≤ 1) : hdT l = -17 := by
  match l, h, hl with
  | [x], h, _ => exact h
  | x :: y :: l, _, hl => simp only [List.length_cons] at hl; omega
theorem gL_pos {l : ae_TL} (h : gL l) : 1 ≤ l.length := by
  match l, h with
  | x :: l, _ => rw [List.length_cons]; omega
theorem len_app (s : List Int32) (x : Int32) (s2 : List Int32) : (s ++ x :: s2).length = s.length + (1 + s2.length) := by
  rw [List.length_append, List.length_cons]
  omega
/-- kinds 1, 3, 6, 8: further ones -/
def pLp (kd : Nat) : Nat := if kd = 1 ∨ kd = 3 ∨ kd = 6 ∨ kd = 8 then 1 else 0
theorem pp_pH : ∀ (m kd o : Nat) (l : ae_TL) (b : Bool) (r : ae_TL) (s : List Int32), pp m kd o l = some (b, r, s) → pH l r s.length ∧ (b = true → dOk s (pLp kd) 1)
  | 0, _, _, _, _, _, _, h => by cases h
  | m + 1, kd, o, l, b, r, s, h => by
    have sq : ∀ {ka kb : Nat}, pLp ka = 0 → pLp kb = 1 → bP (pp m ka o l) (fun l1 s1 => bP (pp m kb o l1) (fun l2 s2 => some (true, l2, s1 ++ s2))) = some (b, r, s) → pH l r s.length ∧ (b = true → dOk s 0 1) := by
      intro ka kb e1 e2 h
      rcases bP_some h with ⟨l1, s1, h1, h⟩ | ⟨l1, s1, h1, h⟩
      · obtain ⟨a1, a2⟩ := pp_pH m _ _ _ _ _ _ h1
        rcases bP_some h with ⟨l2, s2, h2, h⟩ | ⟨l2, s2, h2, h⟩
        · obtain ⟨c1, c2⟩ := pp_pH m _ _ _ _ _ _ h2
          cases h
          rw [e1] at a2
          rw [e2] at c2
          exact ⟨by rw [List.length_append]; exact pH_trans a1 c1, fun _ => dOk_app (a2 rfl) (c2 rfl)⟩
        · obtain ⟨c1, -⟩ := pp_pH m _ _ _ _ _ _ h2
          cases h
          exact ⟨pH_le (pH_trans a1 c1) (Nat.zero_le _), fun q => by cases q⟩
      · obtain ⟨a1, -⟩ := pp_pH m _ _ _ _ _ _ h1
        cases h
        exact ⟨pH_le a1 (Nat.zero_le _), fun q => by cases q⟩
    have lp : ∀ {ka kb : Nat} {c : Int32}, pLp ka = 0 → pLp kb = 1 → cBi c → ¬ hdT l = -17 → bP (pp m ka o l.tail) (fun l1 s1 => bP (pp m kb o l1) (fun l2 s2 => some (true, l2, s1 ++ c :: s2))) = some (b, r, s) → pH l r s.length ∧ (b = true → dOk s 1 1) := by
      intro ka kb c e1 e2 hc hl h
      have ht := pH_tail hl
      rcases bP_some h with ⟨l1, s1, h1, h⟩ | ⟨l1, s1, h1, h⟩
      · obtain ⟨a1, a2⟩ := pp_pH m _ _ _ _ _ _ h1
        rcases bP_some h with ⟨l2, s2, h2, h⟩ | ⟨l2, s2, h2, h⟩
        · obtain ⟨c1, c2⟩ := pp_pH m _ _ _ _ _ _ h2
          cases h
          rw [e1] at a2
          rw [e2] at c2
          refine ⟨?_, fun _ => dOk_app (dOk_up 1 (a2 rfl)) (Or.inr (Or.inr ⟨hc, Nat.le_refl _, c2 rfl⟩))⟩
          rw [len_app]
          exact pH_le (pH_trans (pH_trans ht a1) c1) (by omega)
        · obtain ⟨c1, -⟩ := pp_pH m _ _ _ _ _ _ h2
          cases h
          exact ⟨pH_le (pH_trans (pH_trans ht a1) c1) (Nat.zero_le _), fun q => by cases q⟩
      · obtain ⟨a1, -⟩ := pp_pH m _ _ _ _ _ _ h1
        cases h
        exact ⟨pH_le (pH_trans ht a1) (Nat.zero_le _), fun q => by cases q⟩
    have nil : some (true, l, ([] : List Int32)) = some (b, r, s) → pH l r s.length ∧ (b = true → dOk s 1 1) := by
      intro h
      cases h
      exact ⟨pH_refl l, fun _ => rfl⟩
    match kd, h with
    | 0, h => exact sq (ka := 2) (kb := 1) rfl rfl h
    | 1, h =>
      rw [pp] at h
      split at h
      · next e => exact lp (ka := 2) (kb := 1) rfl rfl (Or.inl rfl) (by rw [e]; decide) h
      · exact nil h
    | 2, h => exact sq (ka := 4) (kb := 3) rfl rfl h
    | 3, h =>
      rw [pp] at h
      split at h
      · next e => exact lp (ka := 4) (kb := 3) rfl rfl (Or.inr (Or.inl rfl)) (by rw [e]; decide) h
      · exact nil h
    | 4, h =>
      rw [pp] at h
      split at h
      · next e =>
        have ht := pH_tail (l := l) (by rw [e]; decide)
        split at h
        · rcases bP_some h with ⟨l1, s1, h1, h⟩ | ⟨l1, s1, h1, h⟩
          · obtain ⟨a1, a2⟩ := pp_pH m _ _ _ _ _ _ h1
            cases h
            refine ⟨?_, fun _ => dOk_app (a2 rfl) (Or.inr (Or.inl ⟨Or.inr rfl, Nat.one_pos, rfl⟩))⟩
            rw [len_app]
            exact pH_le (pH_trans ht a1) (by simp only [List.length_nil]; omega)
          · obtain ⟨a1, -⟩ := pp_pH m _ _ _ _ _ _ h1
            cases h
            exact ⟨pH_le (pH_trans ht a1) (Nat.zero_le _), fun q => by cases q⟩
        · cases h
          exact ⟨pH_refl l, fun q => by cases q⟩
      · rcases bP_some h with ⟨l1, s1, h1, h⟩ | ⟨l1, s1, h1, h⟩
        · obtain ⟨a1, a2⟩ := pp_pH m _ _ _ _ _ _ h1
          split at h
          · next e =>
            have ht := pH_tail (l := l1) (by rcases e with e | e <;> (rw [e]; decide))
            rcases bP_some h with ⟨l2, s2, h2, h⟩ | ⟨l2, s2, h2, h⟩
            · obtain ⟨c1, c2⟩ := pp_pH m _ _ _ _ _ _ h2
              cases h
              refine ⟨?_, fun _ => dOk_app (a2 rfl) (dOk_app (dOk_up 1 (c2 rfl)) (Or.inr (Or.inr ⟨by rcases e with e | e <;> rw [e]; exact Or.inr (Or.inr (Or.inl rfl)); exact Or.inr (Or.inr (Or.inr (Or.inl rfl))), Nat.le_refl _, rfl⟩)))⟩
              rw [List.length_append, len_app]
              exact pH_le (pH_trans a1 (pH_trans ht c1)) (by simp only [List.length_nil]; omega)
            · obtain ⟨c1, -⟩ := pp_pH m _ _ _ _ _ _ h2
              cases h
              exact ⟨pH_le (pH_trans a1 (pH_trans ht c1)) (Nat.zero_le _), fun q => by cases q⟩
          · cases h
            exact ⟨a1, fun _ => a2 rfl⟩
        · obtain ⟨a1, -⟩ := pp_pH m _ _ _ _ _ _ h1
          cases h
          exact ⟨pH_le a1 (Nat.zero_le _), fun q => by cases q⟩
    | 5, h => exact sq (ka := 7) (kb := 6) rfl rfl h
    | 6, h =>
      rw [pp] at h
      split at h
      · next e => exact lp (ka := 7) (kb := 6) rfl rfl (by rcases e with e | e <;> rw [e]; exact Or.inr (Or.inr (Or.inr (Or.inr (Or.inl rfl)))); exact Or.inr (Or.inr (Or.inr (Or.inr (Or.inr (Or.inl rfl)))))) (by rcases e with e | e <;> (rw [e]; decide)) h
      · exact nil h
    | 7, h => exact sq (ka := 9) (kb := 8) rfl rfl h
    | 8, h =>
      rw [pp] at h
      split at h
      · next e => exact lp (ka := 9) (kb := 8) rfl rfl (Or.inr (Or.inr (Or.inr (Or.inr (Or.inr (Or.inr rfl)))))) (by rw [e]; decide) h
      · exact nil h
    | k + 9, h =>
      have hk : pLp (k + 9) = 0 := if_neg (by omega)
      rw [hk]
      have h : (if ¬ hdT l < 0 ∧ ¬ 10005 < hdT l then some (true, l.tail, [hdT l]) else if 5 ≤ o then some (false, l, []) else if hdT l = -7 then bP (pp m 9 (o + 1) l.tail) (fun l1 s1 => some (true, l1, s1 ++ [-12])) else if hdT l = -9 then bP (pp m 0 (o + 1) l.tail) (fun l1 s1 => if hdT l1 = -10 then some (true, l1.tail, s1) else some (false, l1, [])) else some (false, l, [])) = some (b, r, s) := h
      split at h
      · next e =>
        have ht := pH_tail (l := l) (fun q => e.1 (by rw [q]; decide))
        cases h
        refine ⟨ht, fun _ => Or.inl ⟨?_, rfl⟩⟩
        obtain ⟨j, hj, ej⟩ := nI_of2 (M := 10005) (n := 10005) rfl e.1 (Int32.not_lt.mp e.2)
        rcases Nat.lt_or_ge 9999 j with q | q
        · obtain ⟨i, rfl⟩ : ∃ i, j = 10000 + i := ⟨j - 10000, by omega⟩
          exact Or.inr ⟨i, by omega, ej⟩
        · exact Or.inl ⟨j, q, ej⟩
      · split at h
        · cases h
          exact ⟨pH_refl l, fun q => by cases q⟩
        · split at h
          · next e =>
            have ht := pH_tail (l := l) (by rw [e]; decide)
            rcases bP_some h with ⟨l1, s1, h1, h⟩ | ⟨l1, s1, h1, h⟩
            · obtain ⟨a1, a2⟩ := pp_pH m _ _ _ _ _ _ h1
              cases h
              refine ⟨?_, fun _ => dOk_app (a2 rfl) (Or.inr (Or.inl ⟨Or.inl rfl, Nat.one_pos, rfl⟩))⟩
              rw [len_app]
              exact pH_le (pH_trans ht a1) (by simp only [List.length_nil]; omega)
            · obtain ⟨a1, -⟩ := pp_pH m _ _ _ _ _ _ h1
              cases h
              exact ⟨pH_le (pH_trans ht a1) (Nat.zero_le _), fun q => by cases q⟩
          · split at h
            · next e =>
              have ht := pH_tail (l := l) (by rw [e]; decide)
              rcases bP_some h with ⟨l1, s1, h1, h⟩ | ⟨l1, s1, h1, h⟩
              · obtain ⟨a1, a2⟩ := pp_pH m _ _ _ _ _ _ h1
                split at h
                · next e2 =>
                  have ht2 := pH_tail (l := l1) (by rw [e2]; decide)
                  cases h
                  exact ⟨pH_le (pH_trans (pH_trans ht a1) ht2) (by omega), fun _ => a2 rfl⟩
                · cases h
                  exact ⟨pH_le (pH_trans ht a1) (Nat.zero_le _), fun q => by cases q⟩
              · obtain ⟨a1, -⟩ := pp_pH m _ _ _ _ _ _ h1
                cases h
                exact ⟨pH_le (pH_trans ht a1) (Nat.zero_le _), fun q => by cases q⟩
            · cases h
              exact ⟨pH_refl l, fun q => by cases q⟩
/-- rank of a kind: what it calls at once is of less -/
def pRk (kd : Nat) : Nat := match kd with | 0 => 5 | 1 => 0 | 2 => 4 | 3 => 0 | 4 => 3 | 5 => 2 | 6 => 0 | 7 => 1 | _ => 0
theorem pp_tot : ∀ (m kd o : Nat) (l : ae_TL), 10 * l.length + pRk kd < m → ∃ R, pp m kd o l = some R
  | 0, _, _, _, h => absurd h (Nat.not_lt_zero _)
  | m + 1, kd, o, l, h => by
    have sq : ∀ (ka kb : Nat), pRk ka < pRk kd → pRk kb < pRk kd → ∃ R, bP (pp m ka o l) (fun l1 s1 => bP (pp m kb o l1) (fun l2 s2 => some (true, l2, s1 ++ s2))) = some R := by
      intro ka kb e1 e2
      refine bP_ex (pp_tot m _ _ _ (by omega)) (fun l1 s1 h1 => bP_ex (pp_tot m _ _ _ ?_) (fun l2 s2 _ => ⟨_, rfl⟩))
      have := (pp_pH m _ _ _ _ _ _ h1).1.1
      omega
    have lp : ∀ {ka kb : Nat} {c : Int32}, pRk ka < 10 → pRk kb < 10 → ¬ hdT l = -17 → ∃ R, bP (pp m ka o l.tail) (fun l1 s1 => bP (pp m kb o l1) (fun l2 s2 => some (true, l2, s1 ++ c :: s2))) = some R := by
      intro ka kb c e1 e2 hl
      have ht := (pH_tail hl).1
      refine bP_ex (pp_tot m _ _ _ (by omega)) (fun l1 s1 h1 => bP_ex (pp_tot m _ _ _ ?_) (fun l2 s2 _ => ⟨_, rfl⟩))
      have := (pp_pH m _ _ _ _ _ _ h1).1.1
      omega
    match kd, h, sq with
    | 0, h, sq => exact sq 2 1 (by decide) (by decide)
    | 1, h, sq =>
      rw [pp]
      split
      · next e => exact lp (by decide) (by decide) (by rw [e]; decide)
      · exact ⟨_, rfl⟩
    | 2, h, sq => exact sq 4 3 (by decide) (by decide)
    | 3, h, sq =>
      rw [pp]
      split
      · next e => exact lp (by decide) (by decide) (by rw [e]; decide)
      · exact ⟨_, rfl⟩
    | 4, h, sq =>
      rw [pp]
      have h : 10 * l.length + 3 < m + 1 := h
      split
      · next e =>
        have ht := (pH_tail (l := l) (by rw [e]; decide)).1
        split
        · exact bP_ex (pp_tot m _ _ _ (by show 10 * _ + 3 < m; omega)) (fun l1 s1 _ => ⟨_, rfl⟩)
        · exact ⟨_, rfl⟩
      · refine bP_ex (pp_tot m _ _ _ (by show 10 * _ + 2 < m; omega)) (fun l1 s1 h1 => ?_)
        have h2 := (pp_pH m _ _ _ _ _ _ h1).1.1
        split
        · next e =>
          have ht := (pH_tail (l := l1) (by rcases e with e | e <;> (rw [e]; decide))).1
          exact bP_ex (pp_tot m _ _ _ (by show 10 * _ + 2 < m; omega)) (fun l1 s1 _ => ⟨_, rfl⟩)
        · exact ⟨_, rfl⟩
    | 5, h, sq => exact sq 7 6 (by decide) (by decide)
    | 6, h, sq =>
      rw [pp]
      split
      · next e => exact lp (by decide) (by decide) (by rcases e with e | e <;> (rw [e]; decide))
      · exact ⟨_, rfl⟩
    | 7, h, sq => exact sq 9 8 (by decide) (by decide)
    | 8, h, sq =>
      rw [pp]
      split
      · next e => exact lp (by decide) (by decide) (by rw [e]; decide)
      · exact ⟨_, rfl⟩
    | k + 9, h, sq =>
      show ∃ R, (if ¬ hdT l < 0 ∧ ¬ 10005 < hdT l then some (true, l.tail, [hdT l]) else if 5 ≤ o then some (false, l, []) else if hdT l = -7 then bP (pp m 9 (o + 1) l.tail) (fun l1 s1 => some (true, l1, s1 ++ [-12])) else if hdT l = -9 then bP (pp m 0 (o + 1) l.tail) (fun l1 s1 => if hdT l1 = -10 then some (true, l1.tail, s1) else some (false, l1, [])) else some (false, l, [])) = some R
      split
      · exact ⟨_, rfl⟩
      · split
        · exact ⟨_, rfl⟩
        · split
          · next e =>
            have ht := (pH_tail (l := l) (by rw [e]; decide)).1
            exact bP_ex (pp_tot m _ _ _ (by show 10 * _ + 0 < m; omega)) (fun l1 s1 _ => ⟨_, rfl⟩)
          · split
            · next e =>
              have ht := (pH_tail (l := l) (by rw [e]; decide)).1
              refine bP_ex (pp_tot m _ _ _ (by show 10 * _ + 5 < m; omega)) (fun l1 s1 _ => ?_)
              split <;> exact ⟨_, rfl⟩
            · exact ⟨_, rfl⟩
def putL (S : Nat → Int32) : Nat → List Int32 → Nat → Int32
  | _, [] => S
  | c, x :: s => putL (upd S c x) (c + 1) s
theorem putL_app : ∀ (S : Nat → Int32) (c : Nat) (s s2 : List Int32), putL S c (s ++ s2) = putL (putL S c s) (c + s.length) s2
  | S, c, [], s2 => rfl
  | S, c, x :: s, s2 => by
    rw [List.cons_append, putL, putL_app (upd S c x) (c + 1) s s2, putL, List.length_cons, show c + 1 + s.length = c + (s.length + 1) by omega]
theorem putL_lt : ∀ (S : Nat → Int32) (c : Nat) (s : List Int32) (j : Nat), j < c → putL S c s j = S j
  | S, c, [], j, h => rfl
  | S, c, x :: s, j, h => by rw [putL, putL_lt _ (c + 1) s j (by omega), upd_ne (by omega)]
theorem putL_has : ∀ (S : Nat → Int32) (c : Nat) (s : List Int32), hasAt (putL S c s) c s
  | S, c, [] => trivial
  | S, c, x :: s => ⟨by rw [putL, putL_lt _ (c + 1) s c (by omega), upd_eq], putL_has _ (c + 1) s⟩
