/-! the whole heap as one value: ints σ, rows α, a long, the texts; rules to run over it -/
abbrev ae_T : Type := Nat × (Nat → Int32) × (Nat → Int32)
def ae_tpl : Nat → Nat
  | 0 => 43
  | j + 1 => 76 + 3 * j
/-- the row of texts, k behind the first -/
def ae_tx (k : Nat) : Nat → Option Nat := fun j => if j < k + 1 then some (ae_tpl j) else none
def ae_shs : Nat → Option Nat := fun j => if j < 4 then some (35 + 2 * j) else none
def ae_enT : Nat → List ae_T → ae_H
  | _, [] => []
  | p, t :: ts => .inr (5, [.ref (p + 2), .ref (p + 1)]) :: .inl (0, 3, .inl t.2.2) :: .inl (0, t.1, .inl t.2.1) :: ae_enT (p + 3) ts
def ae_en (σ : Nat → Int32) (α : Nat → Nat → Int32) (z : Int64) (t0 : ae_T) (ts : List ae_T) : ae_H :=
  (.inr (6, [.ref 1, .ref 10, .int (σ 0), .ref 19, .ref 25, .ref 28, .ref 34])) ::
  (.inr (0, [.int (σ 1), .int (σ 2), .int (σ 3), .int (σ 4), .int (σ 5), .ref 2, .ref 3, .ref 4, .ref 5, .ref 6, .ref 7, .ref 8, .ref 9])) ::
  (.inl (0, 10, .inl (α 0))) ::
  (.inl (0, 10, .inl (α 1))) ::
  (.inl (0, 10, .inl (α 2))) ::
  (.inl (0, 10, .inl (α 3))) ::
  (.inl (0, 10, .inl (α 4))) ::
  (.inl (0, 9, .inl (α 5))) ::
  (.inl (0, 9, .inl (α 6))) ::
  (.inl (0, 9, .inl (α 7))) ::
  (.inr (0, [.int (σ 6), .int (σ 7), .int (σ 8), .int (σ 9), .int (σ 10), .ref 11, .ref 12, .ref 13, .ref 14, .ref 15, .ref 16, .ref 17, .ref 18])) ::
  (.inl (0, 10, .inl (α 8))) ::
  (.inl (0, 10, .inl (α 9))) ::
  (.inl (0, 10, .inl (α 10))) ::
  (.inl (0, 10, .inl (α 11))) ::
  (.inl (0, 10, .inl (α 12))) ::
  (.inl (0, 9, .inl (α 13))) ::
  (.inl (0, 9, .inl (α 14))) ::
  (.inl (0, 9, .inl (α 15))) ::
  (.inr (2, [.ref 20, .int (σ 11), .ref 21, .ref 22, .int (σ 12), .int (σ 13), .ref 23, .int (σ 14), .ref 24])) ::
  (.inl (1, 160, .inl (α 16))) ::
  (.inl (0, 161, .inl (α 17))) ::
  (.inl (0, 161, .inl (α 18))) ::
  (.inl (0, 160, .inl (α 19))) ::
  (.inl (0, 3, .inl (α 20))) ::
  (.inr (3, [.ref 26, .int (σ 15), .ref 27, .int (σ 16)])) ::
  (.inl (3, 6, .inr (.inr (.inr (.inr (ae_tx ts.length)))))) ::
  (.inl (0, 160, .inl (α 21))) ::
  (.inr (1, [.ref 1, .ref 25, .ref 29, .ref 30, .ref 31, .ref 32, .ref 33, .int (σ 17)])) ::
  (.inl (0, 610, .inl (α 22))) ::
  (.inl (0, 6, .inl (α 23))) ::
  (.inl (0, 9, .inl (α 24))) ::
  (.inl (0, 9, .inl (α 25))) ::
  (.inl (0, 9, .inl (α 26))) ::
  (.inl (2, 4, .inr (.inr (.inr (.inr ae_shs))))) ::
  (.inr (4, [.int (σ 18), .int (σ 19), .ref 36])) ::
  (.inl (0, 40, .inl (α 27))) ::
  (.inr (4, [.int (σ 20), .int (σ 21), .ref 38])) ::
  (.inl (0, 40, .inl (α 28))) ::
  (.inr (4, [.int (σ 22), .int (σ 23), .ref 40])) ::
  (.inl (0, 40, .inl (α 29))) ::
  (.inr (4, [.int (σ 24), .int (σ 25), .ref 42])) ::
  (.inl (0, 40, .inl (α 30))) ::
  (.inr (5, [.ref 45, .ref 44])) ::
  (.inl (0, 3, .inl t0.2.2)) ::
  (.inl (0, t0.1, .inl t0.2.1)) ::
  (.inr (7, [.int (σ 26), .int (σ 27), .ref 47, .ref 48, .ref 49, .ref 50, .ref 51, .ref 52, .ref 53, .ref 54, .int (σ 28), .int (σ 29), .int (σ 30), .ref 55, .int (σ 31), .int (σ 32), .int (σ 33), .ref 56, .ref 57, .ref 58, .int (σ 34), .int (σ 35), .int (σ 36), .int (σ 37), .int (σ 38), .int (σ 39), .int (σ 40), .ref 59, .ref 60, .ref 61, .ref 62, .int (σ 41), .long z, .ref 63, .ref 64, .ref 65, .ref 66, .int (σ 42), .int (σ 43), .int (σ 44), .int (σ 45), .int (σ 46), .int (σ 47), .int (σ 48), .int (σ 49), .int (σ 50), .ref 67, .ref 68, .ref 69, .ref 70, .ref 71, .ref 72, .ref 73, .ref 74, .ref 75])) ::
  (.inl (0, 10, .inl (α 31))) ::
  (.inl (0, 10, .inl (α 32))) ::
  (.inl (0, 10, .inl (α 33))) ::
  (.inl (0, 10, .inl (α 34))) ::
  (.inl (0, 10, .inl (α 35))) ::
  (.inl (0, 10, .inl (α 36))) ::
  (.inl (0, 10, .inl (α 37))) ::
  (.inl (0, 10, .inl (α 38))) ::
  (.inl (1, 160, .inl (α 39))) ::
  (.inl (0, 1190, .inl (α 40))) ::
  (.inl (0, 1190, .inl (α 41))) ::
  (.inl (0, 21, .inl (α 42))) ::
  (.inl (0, 170, .inl (α 43))) ::
  (.inl (0, 6, .inl (α 44))) ::
  (.inl (0, 53, .inl (α 45))) ::
  (.inl (0, 12, .inl (α 46))) ::
  (.inl (0, 10, .inl (α 47))) ::
  (.inl (0, 10, .inl (α 48))) ::
  (.inl (0, 10, .inl (α 49))) ::
  (.inl (0, 10, .inl (α 50))) ::
  (.inl (0, 10, .inl (α 51))) ::
  (.inl (0, 10, .inl (α 52))) ::
  (.inl (0, 10, .inl (α 53))) ::
  (.inl (0, 10, .inl (α 54))) ::
  (.inl (0, 10, .inl (α 55))) ::
  (.inl (0, 4, .inl (α 56))) ::
  (.inl (0, 4, .inl (α 57))) ::
  (.inl (0, 160, .inl (α 58))) ::
  (.inl (0, 40, .inl (α 59))) ::
  ae_enT 76 ts
noncomputable def ae_go (P : ae_P) (cd : List ae_I) : Nat → ae_S → ae_H → Option (Prop × ae_S × ae_H)
  | 0, st, H => some (True, st, H)
  | n + 1, (k, L, S), H => match ae_get cd k with
    | none => none
    | some i => match ae_step P i k L S H with
      | some (.inl (G, st', H1)) => (match ae_go P cd n st' H1 with
        | some (G2, st2, H2) => some (G ∧ G2, st2, H2)
        | none => none)
      | _ => none
def ae_Run (P : ae_P) (d : Nat) (cd : List ae_I) (r : Option Value) (H' : ae_H) (st : ae_S) (H : ae_H) : Prop := ∃ n, ae_runN P (ae_Ev P d) cd r H' n st H
def au {β : Type} (f : Nat → β) : List (Nat × β) → Nat → β
  | [], j => f j
  | (k, v) :: l, j => if j = k then v else au f l j
section ARR
variable {P : ae_P} {d : Nat} {cd : List ae_I} {r : Option Value} {H' : ae_H}
theorem ar_go : ∀ (n : Nat) {st st2 : ae_S} {H H2 : ae_H} {G : Prop}, ae_go P cd n st H = some (G, st2, H2) → G → ae_Run P d cd r H' st2 H2 → ae_Run P d cd r H' st H
  | 0, st, st2, H, H2, G, h, _, k => by
    cases h
    exact k
  | n + 1, (k, L, S), st2, H, H2, G, h, hG, kk => by
    unfold ae_go at h
    split at h
    · cases h
    · next i hi =>
      split at h
      · next G1 st' H1 hs =>
        split at h
        · next G2 st3 H3 hg =>
          cases h
          obtain ⟨m, hm⟩ := ar_go n hg hG.2 kk
          exact ⟨m + 1, i, hi, _, hs, hG.1, hm⟩
        · cases h
      · cases h
theorem ar_br {c : Prop} [Decidable c] {a b : Nat} {L : List (Option Value)} {S : List Value} {H : ae_H} (h1 : c → ae_Run P d cd r H' (a, L, S) H) (h2 : ¬ c → ae_Run P d cd r H' (b, L, S) H) : ae_Run P d cd r H' (if c then a else b, L, S) H := by
  by_cases h : c
  · rw [if_pos h]; exact h1 h
  · rw [if_neg h]; exact h2 h
theorem ar_sw {x : Int32} {v : Int32} {t dd : Nat} {cs : List (Int32 × Nat)} {L : List (Option Value)} {S : List Value} {H : ae_H} (h1 : x = v → ae_Run P d cd r H' (t, L, S) H) (h2 : ¬ x = v → ae_Run P d cd r H' (ae_swt x dd cs, L, S) H) : ae_Run P d cd r H' (ae_swt x dd ((v, t) :: cs), L, S) H := ar_br h1 h2
theorem ar_ret {k : Nat} {L : List (Option Value)} {S : List Value} {H : ae_H} {i : ae_I} {v : Option Value} {G : Prop} (hi : ae_get cd k = some i) (hs : ae_step P i k L S H = some (.inr (.inl (G, v)))) (hG : G) (hv : v = r) (hH : H = H') : ae_Run P d cd r H' (k, L, S) H := ⟨1, i, hi, _, hs, hG, hv, hH⟩
theorem ar_call {k : Nat} {L : List (Option Value)} {S : List Value} {H H1 : ae_H} {i : ae_I} {m : Nat} {as : List Value} {st' : ae_S} {r1 : Option Value} (hi : ae_get cd k = some i) (hs : ae_step P i k L S H = some (.inr (.inr (m, as, st')))) (hc : ae_Ev P d m as H r1 H1) (kk : ae_Run P d cd r H' (st'.1, st'.2.1, r1.toList ++ st'.2.2) H1) : ae_Run P d cd r H' (k, L, S) H := by
  obtain ⟨n, hn⟩ := kk
  exact ⟨n + 1, i, hi, _, hs, r1, H1, hc, hn⟩
theorem ar_ev {m : Nat} {as : List Value} {H : ae_H} {L : List (Option Value)} (hl : Nat.ble (ae_ent as).length (ae_ml m) = true) (hL : ae_pad (ae_ml m) (ae_ent as) = L) (hcd : ae_cd m = cd) (k : ae_Run P d cd r H' (0, L, []) H) : ae_Ev P (d + 1) m as H r H' := by
  subst hcd
  subst hL
  obtain ⟨n, hn⟩ := k
  exact ⟨Nat.le_of_ble_eq_true hl, n, hn⟩
theorem ar_to {st st2 : ae_S} {H H2 : ae_H} (h : ae_Run P d cd r H' st2 H2) (e1 : st = st2) (e2 : H = H2) : ae_Run P d cd r H' st H := by
  subst e1
  subst e2
  exact h
theorem ar_end {st : ae_S} {H : ae_H} {r2 : Option Value} {H2 : ae_H} (h : ae_Run P d cd r2 H2 st H) (hr : r2 = r) (hH : H2 = H') : ae_Run P d cd r H' st H := by
  subst hr
  subst hH
  exact h
end ARR
