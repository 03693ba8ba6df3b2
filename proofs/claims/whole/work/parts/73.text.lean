/-! class and reference side by side: texts -/
theorem pTx_tot {l : ae_TL} (hl : l.length ≤ 161) : ∃ R, pTx 2000 l = some R := by
  unfold pTx
  obtain ⟨⟨b, l1, s1⟩, h1⟩ := pPt_tot (M := 2000) (key := -13) (l := l) (Nat.le_refl _) hl
  have e1 := (pPt_pH (by decide) h1).1.1
  rw [h1]
  cases b with
  | false => exact ⟨_, rfl⟩
  | true =>
    obtain ⟨⟨b, l2, s2⟩, h2⟩ := pPt_tot (M := 2000) (key := -14) (l := l1) (Nat.le_refl _) (by omega)
    have e2 := (pPt_pH (by decide) h2).1.1
    dsimp only
    rw [h2]
    cases b with
    | false => exact ⟨_, rfl⟩
    | true =>
      obtain ⟨⟨b, l3, s3⟩, h3⟩ := pPt_tot (M := 2000) (key := -15) (l := l2) (Nat.le_refl _) (by omega)
      dsimp only
      rw [h3]
      cases b with
      | false => exact ⟨_, rfl⟩
      | true =>
        dsimp only
        split
        · exact ⟨_, rfl⟩
        · exact ⟨_, rfl⟩
theorem mTx_cg {k : Nat} {a0 a1 a2 A W X : Nat → Int32} {e : Nat → List Int32} (h : mTx k a0 a1 a2 e) (hA : ∀ j, j < 170 * k + 160 → A j = a0 j ∧ W j = a1 j) (hE : ∀ j, j < 3 * k + 3 → X j = a2 j) : mTx k A W X e := by
  intro q hq
  obtain ⟨h1, h2, h3, h4, h5⟩ := h q hq
  refine ⟨h1, hasAt_cg (fun j a b => ?_) h2, hasAt_cg (fun j a b => ?_) h3, (hE _ (by omega)).trans h4, h5⟩
  · rw [List.length_map] at b
    exact ((hA (170 * k + j) (by omega)).1).symm
  · rw [List.length_map] at b
    exact ((hA (170 * k + j) (by omega)).2).symm
section L73
variable {P : ae_P} {σ : Nat → Int32} {α : Nat → Nat → Int32} {z : Int64} {t0 : ae_T} {ts : List ae_T}

theorem j_text (hz : P.2.2 = .null ∨ P.2.2 = .retAddr 700) (h : INV σ α t0 ts) : JI P t0 9 133 [] (ae_en σ α z t0 ts) := by
  obtain ⟨n, E, s, hB, hK, hT, hR, hN⟩ := h
  obtain ⟨r1, r2, r3, r4⟩ := id hR
  obtain ⟨t1, t2, t3, t4, t5, t6, t7, t8⟩ := id hT
  by_cases c : ts.length + 1 = 6
  · refine ax_mono (ax_E (ev_text_full (zd := 99) (by rw [t1, c]))) ?_
    rintro _ _ ⟨rfl, rfl⟩
    refine ⟨_, rfl, ⟨_, _, _, _, rfl⟩, ax_mono (ax_E (em_text_full (zd := 99) (t3.trans (congrArg nI c)))) ?_⟩
    rintro _ _ ⟨rfl, rfl⟩
    exact ⟨rfl, _, _, _, _, rfl, n, E, s, hB, hK, hT, hR, hN⟩
  · have hL : lx (α 39) s 160 0 = lx (α 16) s 160 0 := lx_cg r4 160 0
    obtain ⟨⟨b, r0, s1, s2, s3⟩, hpp⟩ := pTx_tot (l := lx (α 16) s 160 0) (lx_len (α 16) s 160 0)
    cases b with
    | false =>
      refine ax_mono (ev_text_no (zd := 36) rfl hz r1 r2 t1 (by omega) hpp) ?_
      rintro _ _ ⟨ct, av, cv, rt, rp, S2, E2, rfl, rfl⟩
      refine ⟨_, rfl, ⟨_, _, _, _, rfl⟩, ax_mono (em_text_no (zd := 49) (σ := au σ [(11, 0), (12, ct), (13, av), (14, cv)]) (α := au α [(17, rt), (18, rp), (19, S2), (20, E2)]) (s := s) (k := ts.length + 1) t8 r3 r2 t3 (by omega) hL hpp) ?_⟩
      rintro _ _ ⟨la, op, fr, tt, so, iz, A, W, X, rfl, rfl, hA, hX⟩
      refine ⟨rfl, _, _, _, _, rfl, n, E, 0, hB, hK, ?_, ?_, hN⟩
      · exact ⟨t1, t2, t3, t4, t5, t6, fun i h1 h2 => mTx_cg (t7 i h1 h2) (fun j hj => hA j (by omega)) (fun j hj => hX j (by omega)), t8⟩
      · exact ⟨rfl, by omega, rfl, fun j hj => absurd hj (Nat.not_lt_zero j)⟩
    | true =>
      refine ax_mono (ev_text_yes (zd := 36) rfl hz r1 r2 t1 (by omega) hpp) ?_
      rintro _ _ ⟨ct, av, cv, rt, rp, S2, E2, t, rfl, rfl, ht⟩
      refine ⟨_, rfl, ⟨_, _, _, _, rfl⟩, ax_mono (em_text_yes (zd := 49) (σ := au σ [(11, 0), (12, ct), (13, av), (14, cv), (15, nI (ts.length + 2))]) (α := au α [(17, rt), (18, rp), (19, S2), (20, E2)]) (s := s) (k := ts.length + 1) t8 r3 r2 t3 (by omega) hL hpp) ?_⟩
      rintro _ _ ⟨la, op, fr, tt, so, iz, A, W, X, rfl, rfl, hm, hA, hX⟩
      have hlen : (ts ++ [t]).length = ts.length + 1 := by rw [List.length_append]; rfl
      refine ⟨rfl, _, _, _, ts ++ [t], rfl, n, (fun i => if i = ts.length + 1 then e3 s1 s2 s3 else E i), 0, hB, ?_, ?_, ?_, hN⟩
      · refine ⟨hK.1, fun h0 => ?_⟩
        obtain ⟨q, q0, q1, q2, q3, q4, q5, q6, q7, ⟨r, hr, er⟩, q9⟩ := hK.2 h0
        exact ⟨q, q0, q1, q2, q3, q4, q5, q6, q7, ⟨r, by omega, er⟩, q9⟩
      · refine ⟨?_, by omega, ?_, ?_, ?_, ?_, ?_, t8⟩
        · rw [hlen]; rfl
        · rw [hlen]; rfl
        · obtain ⟨r, hr, er⟩ := t4
          exact ⟨r, by omega, er⟩
        · intro i u hu
          show tOk u (if i = ts.length + 1 then e3 s1 s2 s3 else E i)
          by_cases e : i = ts.length + 1
          · rw [if_pos e]
            rw [e, ae_get_eq, List.getElem?_cons_succ, List.getElem?_append_right (Nat.le_refl _), Nat.sub_self, List.getElem?_cons_zero] at hu
            cases hu
            exact ht
          · rw [if_neg e]
            refine t5 i u ?_
            rw [ae_get_eq] at hu ⊢
            rw [← List.cons_append] at hu
            rcases Nat.lt_or_ge i (ts.length + 1) with g | g
            · rwa [List.getElem?_append_left (by rw [List.length_cons]; exact g)] at hu
            · rw [List.getElem?_eq_none (by rw [List.length_append, List.length_cons, List.length_singleton]; omega)] at hu
              cases hu
        · show (if 0 = ts.length + 1 then e3 s1 s2 s3 else E 0) = e03
          rw [if_neg (by omega)]
          exact t6
        · intro i h1 h2
          show mTx i A W X (if i = ts.length + 1 then e3 s1 s2 s3 else E i)
          by_cases e : i = ts.length + 1
          · rw [if_pos e, e]
            exact hm
          · rw [if_neg e]
            exact mTx_cg (t7 i h1 (by omega)) (fun j hj => hA j (by omega)) (fun j hj => hX j (by omega))
      · exact ⟨rfl, by omega, rfl, fun j hj => absurd hj (Nat.not_lt_zero j)⟩
end L73
