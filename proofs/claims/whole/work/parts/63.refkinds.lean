/-! the reference's grammar: the kinds' methods -/
theorem bP_lp {x : Option ae_PR} {s1 : List Int32} {t : Int32} {R : ae_PR} (h : bP x (fun l2 s2 => some (true, l2, s1 ++ t :: s2)) = some R) : bP x (fun l2 s2 => some (true, l2, (s1 ++ [t]) ++ s2)) = some R := by
  have e : (fun (l2 : ae_TL) (s2 : List Int32) => some (true, l2, (s1 ++ [t]) ++ s2)) = fun l2 s2 => some (true, l2, s1 ++ t :: s2) := by
    funext l2 s2
    rw [List.append_assoc]
    rfl
  rw [e]
  exact h
theorem aw_top {P : ae_P} {d : Nat} {cd : List ae_I} {Q : Option Value → ae_H → Prop} {k : Nat} {L : List (Option Value)} {S : List Value} {x x2 : Int32} {H : ae_H} (e : x = x2) (h : aw_W P d cd Q (k, L, .int x2 :: S) H) : aw_W P d cd Q (k, L, .int x :: S) H := by
  subst e
  exact h
theorem mrQ_sq2 {σ : Nat → Int32} {α : Nat → Nat → Int32} {z : Int64} {t0 : ae_T} {ts : List ae_T} {s o c : Nat} {l l1 : ae_TL} {x : Option ae_PR} {R : ae_PR} {s1 : List Int32} (hp : pH l l1 s1.length) (h : bP x (fun l2 s2 => some (true, l2, s1 ++ s2)) = some R) : ∃ R1, x = some R1 ∧ ∀ (la ft op fr tt so iz : Int32) (r : Option Value) (H : ae_H), mrQ (au σ [(34, la), (35, ft), (36, op), (37, fr), (38, tt), (39, so), (40, iz)]) (au α [(40, putL (α 40) (1020 + c) (s1.map cA)), (41, putL (α 41) (1020 + c) (s1.map cW))]) z t0 ts s o (c + s1.length) l1 R1 r H → mrQ σ α z t0 ts s o c l R r H := by
  obtain ⟨R1, hx, -⟩ := mrQ_sq (σ := σ) (α := α) (z := z) (t0 := t0) (ts := ts) (s := s) (o := o) (c := c) (la := 0) (ft := 0) (op := 0) (fr := 0) (tt := 0) (so := 0) (iz := 0) hp h
  refine ⟨R1, hx, fun la ft op fr tt so iz => ?_⟩
  obtain ⟨R2, hx2, hq⟩ := mrQ_sq (σ := σ) (α := α) (z := z) (t0 := t0) (ts := ts) (s := s) (o := o) (c := c) (la := la) (ft := ft) (op := op) (fr := fr) (tt := tt) (so := so) (iz := iz) hp h
  rw [hx] at hx2
  cases hx2
  exact hq
/-- a step more -/
theorem up_map {g : Int32 → Int32} {S : Nat → Int32} {k k2 : Nat} {s1 : List Int32} {t v : Int32} (hk : k2 = k + s1.length) (hv : g t = v) : upd (putL S k (s1.map g)) k2 v = putL S k ((s1 ++ [t]).map g) := by
  subst hk
  subst hv
  rw [putL_map1]
  rfl
theorem up_map2 {g : Int32 → Int32} {S : Nat → Int32} {k k1 k2 : Nat} {s1 s2 : List Int32} {t v : Int32} (hk1 : k1 = k + s1.length) (hk : k2 = k1 + s2.length) (hv : g t = v) : upd (putL (putL S k (s1.map g)) k1 (s2.map g)) k2 v = putL S k ((s1 ++ (s2 ++ [t])).map g) := by
  rw [up_map hk hv]
  subst hk1
  rw [← putL_map1]
theorem up_out {A A0 W W0 : Nat → Int32} {k : Nat} {v x : Int32} (h : ∀ j, j < 1020 → A j = A0 j ∧ W j = W0 j) : ∀ j, j < 1020 → upd A (1020 + k) v j = A0 j ∧ upd W (1020 + k) x j = W0 j := fun j hj => ⟨(upd_ne (by omega)).trans (h j hj).1, (upd_ne (by omega)).trans (h j hj).2⟩
theorem put_out {A W : Nat → Int32} {c : Nat} {s1 s2 : List Int32} : ∀ j, j < 1020 → putL A (1020 + c) s1 j = A j ∧ putL W (1020 + c) s2 j = W j := fun j hj => ⟨putL_lt _ _ _ _ (by omega), putL_lt _ _ _ _ (by omega)⟩
theorem out_tr {A A0 A1 W W0 W1 : Nat → Int32} (h : ∀ j, j < 1020 → A j = A0 j ∧ W j = W0 j) (h2 : ∀ j, j < 1020 → A0 j = A1 j ∧ W0 j = W1 j) : ∀ j, j < 1020 → A j = A1 j ∧ W j = W1 j := fun j hj => ⟨(h j hj).1.trans (h2 j hj).1, (h j hj).2.trans (h2 j hj).2⟩
theorem tk_bin {so iz t : Int32} (h : tokR so iz t) (ht : t = -4 ∨ t = -5 ∨ t = -6 ∨ t = -7) : cA t = iz ∧ cW t = 0 := by
  rcases h with ⟨v, hv, rfl, rfl, rfl⟩ | ⟨v, hv, rfl, rfl, rfl⟩ | ⟨rfl, rfl, rfl⟩ | ⟨rfl, rfl, rfl⟩ | ⟨rfl, rfl, rfl⟩ | ⟨rfl, rfl, rfl⟩ | ⟨rfl, rfl, rfl⟩ | ⟨rfl, rfl, rfl⟩ | ⟨rfl, rfl, rfl⟩ | ⟨rfl, rfl, rfl⟩ | ⟨rfl, rfl, rfl⟩ | ⟨rfl, rfl, rfl⟩ | ⟨rfl, rfl, rfl⟩ | ⟨rfl, rfl, rfl⟩ | ⟨rfl, rfl, rfl⟩ | ⟨rfl, rfl, rfl⟩ | ⟨rfl, rfl⟩ | ⟨rfl, rfl⟩
  · exact absurd ht (fun q => by rcases q with q | q | q | q <;> exact nI_nc (by omega) (by decide) q)
  · exact absurd ht (fun q => by rcases q with q | q | q | q <;> exact nI_nc (by omega) (by decide) q)
  · first | exact absurd ht (by decide) | exact ⟨rfl, rfl⟩
  · first | exact absurd ht (by decide) | exact ⟨rfl, rfl⟩
  · first | exact absurd ht (by decide) | exact ⟨rfl, rfl⟩
  · first | exact absurd ht (by decide) | exact ⟨rfl, rfl⟩
  · first | exact absurd ht (by decide) | exact ⟨rfl, rfl⟩
  · first | exact absurd ht (by decide) | exact ⟨rfl, rfl⟩
  · first | exact absurd ht (by decide) | exact ⟨rfl, rfl⟩
  · first | exact absurd ht (by decide) | exact ⟨rfl, rfl⟩
  · first | exact absurd ht (by decide) | exact ⟨rfl, rfl⟩
  · first | exact absurd ht (by decide) | exact ⟨rfl, rfl⟩
  · first | exact absurd ht (by decide) | exact ⟨rfl, rfl⟩
  · first | exact absurd ht (by decide) | exact ⟨rfl, rfl⟩
  · first | exact absurd ht (by decide) | exact ⟨rfl, rfl⟩
  · first | exact absurd ht (by decide) | exact ⟨rfl, rfl⟩
  · exact absurd ht (by decide)
  · exact absurd ht (by decide)
section L63
variable {P : ae_P} {σ : Nat → Int32} {α : Nat → Nat → Int32} {z : Int64} {t0 : ae_T} {ts : List ae_T}

theorem mrQ_y {s o c : Nat} {l l1 : ae_TL} {s1 : List Int32} {r : Option Value} {H : ae_H} (h : mrQ σ α z t0 ts s o c l (true, l1, s1) r H) : ∃ (fr tt so iz : Int32), r = none ∧ H = ae_en (au σ [(34, nI (c + s1.length)), (35, (-1)), (36, nI o), (37, fr), (38, tt), (39, so), (40, iz)]) (au α [(40, putL (α 40) (1020 + c) (s1.map cA)), (41, putL (α 41) (1020 + c) (s1.map cW))]) z t0 ts ∧ mrT s (α 39) l1 fr tt so iz := by
  obtain ⟨la, ft, op, fr, tt, so, iz, A, W, e1, e2, e3, -⟩ := h
  obtain ⟨rfl, rfl, rfl, f4, rfl, rfl⟩ := e3 rfl
  exact ⟨fr, tt, so, iz, e1, e2, f4⟩
theorem mrQ_n {s o c : Nat} {l l1 : ae_TL} {s1 : List Int32} {r : Option Value} {H : ae_H} (h : mrQ σ α z t0 ts s o c l (false, l1, s1) r H) : ∃ (k : Nat) (op fr tt so iz : Int32) (A W : Nat → Int32), r = none ∧ H = ae_en (au σ [(34, nI k), (35, nI (hdP l1)), (36, op), (37, fr), (38, tt), (39, so), (40, iz)]) (au α [(40, A), (41, W)]) z t0 ts ∧ hdP l1 ≤ s ∧ c ≤ k ∧ k + l1.length ≤ c + l.length ∧ ∀ j, j < 1020 → A j = α 40 j ∧ W j = α 41 j := by
  obtain ⟨la, ft, op, fr, tt, so, iz, A, W, e1, e2, -, e3⟩ := h
  obtain ⟨rfl, f2, ⟨k, rfl, f3, f4⟩, f5⟩ := e3 rfl
  exact ⟨k, op, fr, tt, so, iz, A, W, e1, e2, f2, f3, f4, f5⟩
theorem mrQ_ok {s o c n : Nat} {l l1 : ae_TL} {s1 : List Int32} {fr tt so iz : Int32} {A W : Nat → Int32} (hn : n = c + s1.length) (hA : A = putL (α 40) (1020 + c) (s1.map cA)) (hW : W = putL (α 41) (1020 + c) (s1.map cW)) (ht : mrT s (α 39) l1 fr tt so iz) : mrQ σ α z t0 ts s o c l (true, l1, s1) none (ae_en (au σ [(34, nI n), (35, (-1)), (36, nI o), (37, fr), (38, tt), (39, so), (40, iz)]) (au α [(40, A), (41, W)]) z t0 ts) := by
  subst hn
  exact ⟨_, _, _, _, _, _, _, _, _, rfl, rfl, And.intro (fun _ => ⟨rfl, rfl, rfl, ht, hA, hW⟩) (fun q => Bool.noConfusion q)⟩
theorem mrQ_bad {s o c k : Nat} {l l1 : ae_TL} {x : List Int32} {op fr tt so iz : Int32} {A W : Nat → Int32} (h1 : hdP l1 ≤ s) (h2 : c ≤ k) (h3 : k + l1.length ≤ c + l.length) (h4 : ∀ j, j < 1020 → A j = α 40 j ∧ W j = α 41 j) : mrQ σ α z t0 ts s o c l (false, l1, x) none (ae_en (au σ [(34, nI k), (35, nI (hdP l1)), (36, op), (37, fr), (38, tt), (39, so), (40, iz)]) (au α [(40, A), (41, W)]) z t0 ts) :=
  ⟨_, _, _, _, _, _, _, _, _, rfl, rfl, And.intro (fun q => Bool.noConfusion q) (fun _ => ⟨rfl, h1, ⟨k, rfl, h2, h3⟩, h4⟩)⟩
theorem mrX_y {s m kd o c D : Nat} {l l1 : ae_TL} {s1 : List Int32} (ih : mrX P z t0 ts s m kd) (q : pp m kd o l = some (true, l1, s1)) (hP : mrP s o c l σ α) (hD : 7 * (5 - o) + mrD kd ≤ D) : aw_X P D (mrK kd) [.ref 46] (ae_en σ α z t0 ts) (fun r H => ∃ (fr tt so iz : Int32), r = none ∧ H = ae_en (au σ [(34, nI (c + s1.length)), (35, (-1)), (36, nI o), (37, fr), (38, tt), (39, so), (40, iz)]) (au α [(40, putL (α 40) (1020 + c) (s1.map cA)), (41, putL (α 41) (1020 + c) (s1.map cW))]) z t0 ts ∧ mrT s (α 39) l1 fr tt so iz) := ax_mono (ih σ α o l _ c D q hP hD) (fun _ _ h => mrQ_y h)
theorem mrX_n {s m kd o c D : Nat} {l l1 : ae_TL} {s1 : List Int32} (ih : mrX P z t0 ts s m kd) (q : pp m kd o l = some (false, l1, s1)) (hP : mrP s o c l σ α) (hD : 7 * (5 - o) + mrD kd ≤ D) : aw_X P D (mrK kd) [.ref 46] (ae_en σ α z t0 ts) (fun r H => ∃ (k : Nat) (op fr tt so iz : Int32) (A W : Nat → Int32), r = none ∧ H = ae_en (au σ [(34, nI k), (35, nI (hdP l1)), (36, op), (37, fr), (38, tt), (39, so), (40, iz)]) (au α [(40, A), (41, W)]) z t0 ts ∧ hdP l1 ≤ s ∧ c ≤ k ∧ k + l1.length ≤ c + l.length ∧ ∀ j, j < 1020 → A j = α 40 j ∧ W j = α 41 j) := ax_mono (ih σ α o l _ c D q hP hD) (fun _ _ h => mrQ_n h)
def mrL (P : ae_P) (z : Int64) (t0 : ae_T) (ts : List ae_T) (s m kd k0 : Nat) (cd : List ae_I) : Prop := ∀ (σ : Nat → Int32) (α : Nat → Nat → Int32) (o : Nat) (l : ae_TL) (R : ae_PR) (c D : Nat), pp m kd o l = some R → mrP s o c l σ α → 7 * (5 - o) + mrD k0 ≤ D + 1 → aw_W P D cd (mrQ σ α z t0 ts s o c l R) (2, [some (.ref 46)], []) (ae_en σ α z t0 ts)
def mrM (P : ae_P) (z : Int64) (t0 : ae_T) (ts : List ae_T) (s m : Nat) : Prop := ∀ (σ : Nat → Int32) (α : Nat → Nat → Int32) (o : Nat) (l : ae_TL) (R : ae_PR) (c D : Nat) (x : Option Value), pp m 6 o l = some R → mrP s o c l σ α → 7 * (5 - o) + mrD 5 ≤ D + 1 → aw_W P D cd_Model_sum (mrQ σ α z t0 ts s o c l R) (2, [some (.ref 46), x], []) (ae_en σ α z t0 ts)
theorem ml_either {s m : Nat} (ih : mrX P z t0 ts s m 2) (il : mrL P z t0 ts s m 1 0 cd_Model_either) : mrL P z t0 ts s (m + 1) 1 0 cd_Model_either := by
  intro σ α o l R c D hpp hP hD
  obtain ⟨D, rfl⟩ : ∃ E, D = E + 3 := ⟨D - 3, by simp only [mrD] at hD; omega⟩
  have h0 := hP
  obtain ⟨a1, a2, a3, a4, a5, a6, a7, a8, a9, a10⟩ := hP
  have a7t := a7.2.2.1
  have a7p := a7.2.1
  rw [pp] at hpp
  by_cases e : hdT l = (-1)
  · rw [if_pos e] at hpp
    have e17 : ¬ hdT l = -17 := by rw [e]; decide
    have ht := pH_tail (l := l) e17
    have ht1 := ht.1
    have hlp := gL_pos (ht.2.1 a9)
    rcases bP_some hpp with ⟨l1, s1, q1, hpp⟩ | ⟨l1, s1, q1, rfl⟩
    · have hp := (pp_pH _ _ _ _ _ _ _ q1).1
      have hp1 := hp.1
      have hg1 := hp.2.1 (ht.2.1 a9)
      have hl1 := gL_pos hg1
      have hps : pH l l1 (s1 ++ [(-1)]).length := by rw [List.length_append, Nat.add_comm]; exact pH_trans ht hp
      obtain ⟨R1, q2, hq⟩ := mrQ_sq2 (σ := σ) (α := α) (z := z) (t0 := t0) (ts := ts) (s := s) (o := o) (c := c) hps (bP_lp hpp)
      refine aw_go 2 rfl ⟨trivial, trivial, trivial⟩ ?_
      refine aw_callE rfl rfl (ev_Model_isKey (b := 13)) ?_
      show aw_W _ _ _ _ (5, [some (.ref 46)], [.int (bI ((σ 35) < 0 ∧ (σ 39) = 1 ∧ (σ 40) = 13))]) (ae_en σ α z t0 ts)
      refine aw_top (x2 := 1) ((is_k13 a7t a5).trans (bI_1 e).symm) ?_
      refine aw_go 1 rfl ⟨trivial, trivial⟩ ?_
      refine aw_br (c := (1 : Int32) = 0) (fun h5 => ?_) (fun h5 => ?_)
      · skip
        have h5 := cI_eqT (a := 1) (b := 0) rfl rfl (by omega) (by omega) h5
        show aw_W _ _ _ _ (15, [some (.ref 46)], []) (ae_en σ α z t0 ts)
        exact absurd h5 (by decide)
      · skip
        have h5 := cI_eqF (a := 1) (b := 0) rfl rfl (by omega) (by omega) h5
        show aw_W _ _ _ _ (6, [some (.ref 46)], []) (ae_en σ α z t0 ts)
        refine aw_go 1 rfl ⟨trivial, trivial⟩ ?_
        refine aw_call rfl rfl (mr_next h0 e17) ?_
        rintro _ _ ⟨fr_7, tt_7, so_7, iz_7, rfl, rfl, ht_7⟩
        show aw_W _ _ _ _ (8, [some (.ref 46)], []) (ae_en (au σ [(37, fr_7), (38, tt_7), (39, so_7), (40, iz_7)]) α z t0 ts)
        refine aw_go 1 rfl ⟨trivial, trivial⟩ ?_
        refine aw_call rfl rfl (mrX_y ih q1 ⟨a1, a2, a3, a4, a5, a6, ht_7, (by omega), (ht.2.1 a9), a10⟩ (by simp only [mrD] at hD ⊢; omega)) ?_
        rintro _ _ ⟨fr_9, tt_9, so_9, iz_9, rfl, rfl, ht_9⟩
        show aw_W _ _ _ _ (10, [some (.ref 46)], []) (ae_en (au σ [(34, nI (c + s1.length)), (35, (-1)), (36, nI o), (37, fr_9), (38, tt_9), (39, so_9), (40, iz_9)]) (au α [(40, putL (α 40) (1020 + c) (s1.map cA)), (41, putL (α 41) (1020 + c) (s1.map cW))]) z t0 ts)
        refine aw_go 3 rfl ⟨trivial, trivial, trivial, trivial⟩ ?_
        refine aw_call rfl rfl (ev_Model_addStep (a := 5) (b := 0) (c := (c + s1.length)) rfl (by omega)) ?_
        rintro _ _ ⟨rfl, rfl⟩
        show aw_W _ _ _ _ (14, [some (.ref 46)], []) (ae_en (au σ [(34, nI ((c + s1.length) + 1)), (35, (-1)), (36, nI o), (37, fr_9), (38, tt_9), (39, so_9), (40, iz_9)]) (au α [(40, upd (putL (α 40) (1020 + c) (s1.map cA)) (1020 + (c + s1.length)) 5), (41, upd (putL (α 41) (1020 + c) (s1.map cW)) (1020 + (c + s1.length)) 0)]) z t0 ts)
        refine aw_go 1 rfl ⟨trivial, trivial⟩ ?_
        have hc1 := hps.1
        rw [up_map (g := cA) (S := α 40) (k := 1020 + c) (k2 := 1020 + (c + s1.length)) (s1 := s1) (t := -1) (v := 5) (by omega) rfl, up_map (g := cW) (S := α 41) (k := 1020 + c) (k2 := 1020 + (c + s1.length)) (s1 := s1) (t := -1) (v := 0) (by omega) rfl, show c + s1.length + 1 = c + (s1 ++ [-1]).length by rw [List.length_append]; rfl]
        exact aw_mono (il _ _ o l1 R1 _ _ q2 ⟨a1, a2, a3, rfl, rfl, rfl, ht_9, by omega, hg1, a10⟩ hD) (hq _ _ _ _ _ _ _)
    · have hp := (pp_pH _ _ _ _ _ _ _ q1).1
      have hp1 := hp.1
      have hg1 := hp.2.1 (ht.2.1 a9)
      have hl1 := gL_pos hg1
      refine aw_go 2 rfl ⟨trivial, trivial, trivial⟩ ?_
      refine aw_callE rfl rfl (ev_Model_isKey (b := 13)) ?_
      show aw_W _ _ _ _ (5, [some (.ref 46)], [.int (bI ((σ 35) < 0 ∧ (σ 39) = 1 ∧ (σ 40) = 13))]) (ae_en σ α z t0 ts)
      refine aw_top (x2 := 1) ((is_k13 a7t a5).trans (bI_1 e).symm) ?_
      refine aw_go 1 rfl ⟨trivial, trivial⟩ ?_
      refine aw_br (c := (1 : Int32) = 0) (fun h5 => ?_) (fun h5 => ?_)
      · skip
        have h5 := cI_eqT (a := 1) (b := 0) rfl rfl (by omega) (by omega) h5
        show aw_W _ _ _ _ (15, [some (.ref 46)], []) (ae_en σ α z t0 ts)
        exact absurd h5 (by decide)
      · skip
        have h5 := cI_eqF (a := 1) (b := 0) rfl rfl (by omega) (by omega) h5
        show aw_W _ _ _ _ (6, [some (.ref 46)], []) (ae_en σ α z t0 ts)
        refine aw_go 1 rfl ⟨trivial, trivial⟩ ?_
        refine aw_call rfl rfl (mr_next h0 e17) ?_
        rintro _ _ ⟨fr_7, tt_7, so_7, iz_7, rfl, rfl, ht_7⟩
        show aw_W _ _ _ _ (8, [some (.ref 46)], []) (ae_en (au σ [(37, fr_7), (38, tt_7), (39, so_7), (40, iz_7)]) α z t0 ts)
        refine aw_go 1 rfl ⟨trivial, trivial⟩ ?_
        refine aw_call rfl rfl (mrX_n ih q1 ⟨a1, a2, a3, a4, a5, a6, ht_7, (by omega), (ht.2.1 a9), a10⟩ (by simp only [mrD] at hD ⊢; omega)) ?_
        rintro _ _ ⟨k_9, op_9, fr_9, tt_9, so_9, iz_9, A_9, W_9, rfl, rfl, f1_9, f2_9, f3_9, f4_9⟩
        show aw_W _ _ _ _ (10, [some (.ref 46)], []) (ae_en (au σ [(34, nI k_9), (35, nI (hdP l1)), (36, op_9), (37, fr_9), (38, tt_9), (39, so_9), (40, iz_9)]) (au α [(40, A_9), (41, W_9)]) z t0 ts)
        refine aw_go 3 rfl ⟨trivial, trivial, trivial, trivial⟩ ?_
        refine aw_call rfl rfl (ev_Model_addStep (a := 5) (b := 0) (c := k_9) rfl (by omega)) ?_
        rintro _ _ ⟨rfl, rfl⟩
        show aw_W _ _ _ _ (14, [some (.ref 46)], []) (ae_en (au σ [(34, nI (k_9 + 1)), (35, nI (hdP l1)), (36, op_9), (37, fr_9), (38, tt_9), (39, so_9), (40, iz_9)]) (au α [(40, upd A_9 (1020 + k_9) 5), (41, upd W_9 (1020 + k_9) 0)]) z t0 ts)
        refine aw_go 3 rfl ⟨trivial, trivial, trivial, trivial⟩ ?_
        refine aw_callE rfl rfl (ev_Model_isKey (b := 13)) ?_
        show aw_W _ _ _ _ (5, [some (.ref 46)], [.int (bI ((nI (hdP l1)) < 0 ∧ so_9 = 1 ∧ iz_9 = 13))]) (ae_en (au σ [(34, nI (k_9 + 1)), (35, nI (hdP l1)), (36, op_9), (37, fr_9), (38, tt_9), (39, so_9), (40, iz_9)]) (au α [(40, upd A_9 (1020 + k_9) 5), (41, upd W_9 (1020 + k_9) 0)]) z t0 ts)
        refine aw_top (x2 := 0) (is_no (p := hdP l1) (by omega) rfl) ?_
        refine aw_go 1 rfl ⟨trivial, trivial⟩ ?_
        refine aw_br (c := (0 : Int32) = 0) (fun h5b => ?_) (fun h5b => ?_)
        · skip
          have h5b := cI_eqT (a := 0) (b := 0) rfl rfl (by omega) (by omega) h5b
          show aw_W _ _ _ _ (15, [some (.ref 46)], []) (ae_en (au σ [(34, nI (k_9 + 1)), (35, nI (hdP l1)), (36, op_9), (37, fr_9), (38, tt_9), (39, so_9), (40, iz_9)]) (au α [(40, upd A_9 (1020 + k_9) 5), (41, upd W_9 (1020 + k_9) 0)]) z t0 ts)
          refine aw_ret rfl rfl trivial ?_
          exact mrQ_bad f1_9 (by omega) (by omega) (up_out f4_9)
        · skip
          have h5b := cI_eqF (a := 0) (b := 0) rfl rfl (by omega) (by omega) h5b
          show aw_W _ _ _ _ (6, [some (.ref 46)], []) (ae_en (au σ [(34, nI (k_9 + 1)), (35, nI (hdP l1)), (36, op_9), (37, fr_9), (38, tt_9), (39, so_9), (40, iz_9)]) (au α [(40, upd A_9 (1020 + k_9) 5), (41, upd W_9 (1020 + k_9) 0)]) z t0 ts)
          exact absurd h5b (by decide)
  · rw [if_neg e] at hpp
    cases hpp
    refine aw_go 2 rfl ⟨trivial, trivial, trivial⟩ ?_
    refine aw_callE rfl rfl (ev_Model_isKey (b := 13)) ?_
    show aw_W _ _ _ _ (5, [some (.ref 46)], [.int (bI ((σ 35) < 0 ∧ (σ 39) = 1 ∧ (σ 40) = 13))]) (ae_en σ α z t0 ts)
    refine aw_top (x2 := 0) ((is_k13 a7t a5).trans (bI_0 e).symm) ?_
    refine aw_go 1 rfl ⟨trivial, trivial⟩ ?_
    refine aw_br (c := (0 : Int32) = 0) (fun h5 => ?_) (fun h5 => ?_)
    · skip
      have h5 := cI_eqT (a := 0) (b := 0) rfl rfl (by omega) (by omega) h5
      show aw_W _ _ _ _ (15, [some (.ref 46)], []) (ae_en σ α z t0 ts)
      refine aw_ret rfl rfl trivial ?_
      exact mrQ_nil h0
    · skip
      have h5 := cI_eqF (a := 0) (b := 0) rfl rfl (by omega) (by omega) h5
      show aw_W _ _ _ _ (6, [some (.ref 46)], []) (ae_en σ α z t0 ts)
      exact absurd h5 (by decide)
theorem mr_either {s m : Nat} (ih : mrX P z t0 ts s m 2) (il : mrL P z t0 ts s m 1 0 cd_Model_either) : mrX P z t0 ts s (m + 1) 0 := by
  intro σ α o l R c D hpp hP hD
  obtain ⟨D, rfl⟩ : ∃ E, D = E + 4 := ⟨D - 4, by simp only [mrD] at hD; omega⟩
  have h0 := hP
  obtain ⟨a1, a2, a3, a4, a5, a6, a7, a8, a9, a10⟩ := hP
  have a7t := a7.2.2.1
  have a7p := a7.2.1
  rw [pp] at hpp
  refine aw_ev (cd := cd_Model_either) rfl rfl rfl ?_
  rcases bP_some hpp with ⟨l1, s1, q1, hpp⟩ | ⟨l1, s1, q1, rfl⟩
  · have hp := (pp_pH _ _ _ _ _ _ _ q1).1
    have hp1 := hp.1
    have hg1 := hp.2.1 a9
    obtain ⟨R1, q2, hq⟩ := mrQ_sq2 (σ := σ) (α := α) (z := z) (t0 := t0) (ts := ts) (s := s) (o := o) (c := c) hp hpp
    show aw_W _ _ _ _ (0, [some (.ref 46)], []) (ae_en σ α z t0 ts)
    refine aw_go 1 rfl ⟨trivial, trivial⟩ ?_
    refine aw_call rfl rfl (mrX_y ih q1 h0 (by simp only [mrD] at hD ⊢; omega)) ?_
    rintro _ _ ⟨fr_1, tt_1, so_1, iz_1, rfl, rfl, ht_1⟩
    show aw_W _ _ _ _ (2, [some (.ref 46)], []) (ae_en (au σ [(34, nI (c + s1.length)), (35, (-1)), (36, nI o), (37, fr_1), (38, tt_1), (39, so_1), (40, iz_1)]) (au α [(40, putL (α 40) (1020 + c) (s1.map cA)), (41, putL (α 41) (1020 + c) (s1.map cW))]) z t0 ts)
    exact aw_mono (il _ _ o l1 R1 _ _ q2 ⟨a1, a2, a3, rfl, rfl, rfl, ht_1, by omega, hg1, a10⟩ (by simp only [mrD] at hD ⊢; omega)) (hq _ _ _ _ _ _ _)
  · have hp := (pp_pH _ _ _ _ _ _ _ q1).1
    have hp1 := hp.1
    show aw_W _ _ _ _ (0, [some (.ref 46)], []) (ae_en σ α z t0 ts)
    refine aw_go 1 rfl ⟨trivial, trivial⟩ ?_
    refine aw_call rfl rfl (mrX_n ih q1 h0 (by simp only [mrD] at hD ⊢; omega)) ?_
    rintro _ _ ⟨k_1, op_1, fr_1, tt_1, so_1, iz_1, A_1, W_1, rfl, rfl, f1_1, f2_1, f3_1, f4_1⟩
    show aw_W _ _ _ _ (2, [some (.ref 46)], []) (ae_en (au σ [(34, nI k_1), (35, nI (hdP l1)), (36, op_1), (37, fr_1), (38, tt_1), (39, so_1), (40, iz_1)]) (au α [(40, A_1), (41, W_1)]) z t0 ts)
    refine aw_go 2 rfl ⟨trivial, trivial, trivial⟩ ?_
    refine aw_callE rfl rfl (ev_Model_isKey (b := 13)) ?_
    show aw_W _ _ _ _ (5, [some (.ref 46)], [.int (bI ((nI (hdP l1)) < 0 ∧ so_1 = 1 ∧ iz_1 = 13))]) (ae_en (au σ [(34, nI k_1), (35, nI (hdP l1)), (36, op_1), (37, fr_1), (38, tt_1), (39, so_1), (40, iz_1)]) (au α [(40, A_1), (41, W_1)]) z t0 ts)
    refine aw_top (x2 := 0) (is_no (p := hdP l1) (by omega) rfl) ?_
    refine aw_go 1 rfl ⟨trivial, trivial⟩ ?_
    refine aw_br (c := (0 : Int32) = 0) (fun h5 => ?_) (fun h5 => ?_)
    · skip
      have h5 := cI_eqT (a := 0) (b := 0) rfl rfl (by omega) (by omega) h5
      show aw_W _ _ _ _ (15, [some (.ref 46)], []) (ae_en (au σ [(34, nI k_1), (35, nI (hdP l1)), (36, op_1), (37, fr_1), (38, tt_1), (39, so_1), (40, iz_1)]) (au α [(40, A_1), (41, W_1)]) z t0 ts)
      refine aw_ret rfl rfl trivial ?_
      exact mrQ_bad f1_1 (by omega) (by omega) f4_1
    · skip
      have h5 := cI_eqF (a := 0) (b := 0) rfl rfl (by omega) (by omega) h5
      show aw_W _ _ _ _ (6, [some (.ref 46)], []) (ae_en (au σ [(34, nI k_1), (35, nI (hdP l1)), (36, op_1), (37, fr_1), (38, tt_1), (39, so_1), (40, iz_1)]) (au α [(40, A_1), (41, W_1)]) z t0 ts)
      exact absurd h5 (by decide)
theorem ml_all {s m : Nat} (ih : mrX P z t0 ts s m 4) (il : mrL P z t0 ts s m 3 2 cd_Model_all) : mrL P z t0 ts s (m + 1) 3 2 cd_Model_all := by
  intro σ α o l R c D hpp hP hD
  obtain ⟨D, rfl⟩ : ∃ E, D = E + 3 := ⟨D - 3, by simp only [mrD] at hD; omega⟩
  have h0 := hP
  obtain ⟨a1, a2, a3, a4, a5, a6, a7, a8, a9, a10⟩ := hP
  have a7t := a7.2.2.1
  have a7p := a7.2.1
  rw [pp] at hpp
  by_cases e : hdT l = (-2)
  · rw [if_pos e] at hpp
    have e17 : ¬ hdT l = -17 := by rw [e]; decide
    have ht := pH_tail (l := l) e17
    have ht1 := ht.1
    have hlp := gL_pos (ht.2.1 a9)
    rcases bP_some hpp with ⟨l1, s1, q1, hpp⟩ | ⟨l1, s1, q1, rfl⟩
    · have hp := (pp_pH _ _ _ _ _ _ _ q1).1
      have hp1 := hp.1
      have hg1 := hp.2.1 (ht.2.1 a9)
      have hl1 := gL_pos hg1
      have hps : pH l l1 (s1 ++ [(-2)]).length := by rw [List.length_append, Nat.add_comm]; exact pH_trans ht hp
      obtain ⟨R1, q2, hq⟩ := mrQ_sq2 (σ := σ) (α := α) (z := z) (t0 := t0) (ts := ts) (s := s) (o := o) (c := c) hps (bP_lp hpp)
      refine aw_go 2 rfl ⟨trivial, trivial, trivial⟩ ?_
      refine aw_callE rfl rfl (ev_Model_isKey (b := 14)) ?_
      show aw_W _ _ _ _ (5, [some (.ref 46)], [.int (bI ((σ 35) < 0 ∧ (σ 39) = 1 ∧ (σ 40) = 14))]) (ae_en σ α z t0 ts)
      refine aw_top (x2 := 1) ((is_k14 a7t a5).trans (bI_1 e).symm) ?_
      refine aw_go 1 rfl ⟨trivial, trivial⟩ ?_
      refine aw_br (c := (1 : Int32) = 0) (fun h5 => ?_) (fun h5 => ?_)
      · skip
        have h5 := cI_eqT (a := 1) (b := 0) rfl rfl (by omega) (by omega) h5
        show aw_W _ _ _ _ (15, [some (.ref 46)], []) (ae_en σ α z t0 ts)
        exact absurd h5 (by decide)
      · skip
        have h5 := cI_eqF (a := 1) (b := 0) rfl rfl (by omega) (by omega) h5
        show aw_W _ _ _ _ (6, [some (.ref 46)], []) (ae_en σ α z t0 ts)
        refine aw_go 1 rfl ⟨trivial, trivial⟩ ?_
        refine aw_call rfl rfl (mr_next h0 e17) ?_
        rintro _ _ ⟨fr_7, tt_7, so_7, iz_7, rfl, rfl, ht_7⟩
        show aw_W _ _ _ _ (8, [some (.ref 46)], []) (ae_en (au σ [(37, fr_7), (38, tt_7), (39, so_7), (40, iz_7)]) α z t0 ts)
        refine aw_go 1 rfl ⟨trivial, trivial⟩ ?_
        refine aw_call rfl rfl (mrX_y ih q1 ⟨a1, a2, a3, a4, a5, a6, ht_7, (by omega), (ht.2.1 a9), a10⟩ (by simp only [mrD] at hD ⊢; omega)) ?_
        rintro _ _ ⟨fr_9, tt_9, so_9, iz_9, rfl, rfl, ht_9⟩
        show aw_W _ _ _ _ (10, [some (.ref 46)], []) (ae_en (au σ [(34, nI (c + s1.length)), (35, (-1)), (36, nI o), (37, fr_9), (38, tt_9), (39, so_9), (40, iz_9)]) (au α [(40, putL (α 40) (1020 + c) (s1.map cA)), (41, putL (α 41) (1020 + c) (s1.map cW))]) z t0 ts)
        refine aw_go 3 rfl ⟨trivial, trivial, trivial, trivial⟩ ?_
        refine aw_call rfl rfl (ev_Model_addStep (a := 6) (b := 0) (c := (c + s1.length)) rfl (by omega)) ?_
        rintro _ _ ⟨rfl, rfl⟩
        show aw_W _ _ _ _ (14, [some (.ref 46)], []) (ae_en (au σ [(34, nI ((c + s1.length) + 1)), (35, (-1)), (36, nI o), (37, fr_9), (38, tt_9), (39, so_9), (40, iz_9)]) (au α [(40, upd (putL (α 40) (1020 + c) (s1.map cA)) (1020 + (c + s1.length)) 6), (41, upd (putL (α 41) (1020 + c) (s1.map cW)) (1020 + (c + s1.length)) 0)]) z t0 ts)
        refine aw_go 1 rfl ⟨trivial, trivial⟩ ?_
        have hc1 := hps.1
        rw [up_map (g := cA) (S := α 40) (k := 1020 + c) (k2 := 1020 + (c + s1.length)) (s1 := s1) (t := -2) (v := 6) (by omega) rfl, up_map (g := cW) (S := α 41) (k := 1020 + c) (k2 := 1020 + (c + s1.length)) (s1 := s1) (t := -2) (v := 0) (by omega) rfl, show c + s1.length + 1 = c + (s1 ++ [-2]).length by rw [List.length_append]; rfl]
        exact aw_mono (il _ _ o l1 R1 _ _ q2 ⟨a1, a2, a3, rfl, rfl, rfl, ht_9, by omega, hg1, a10⟩ hD) (hq _ _ _ _ _ _ _)
    · have hp := (pp_pH _ _ _ _ _ _ _ q1).1
      have hp1 := hp.1
      have hg1 := hp.2.1 (ht.2.1 a9)
      have hl1 := gL_pos hg1
      refine aw_go 2 rfl ⟨trivial, trivial, trivial⟩ ?_
      refine aw_callE rfl rfl (ev_Model_isKey (b := 14)) ?_
      show aw_W _ _ _ _ (5, [some (.ref 46)], [.int (bI ((σ 35) < 0 ∧ (σ 39) = 1 ∧ (σ 40) = 14))]) (ae_en σ α z t0 ts)
      refine aw_top (x2 := 1) ((is_k14 a7t a5).trans (bI_1 e).symm) ?_
      refine aw_go 1 rfl ⟨trivial, trivial⟩ ?_
      refine aw_br (c := (1 : Int32) = 0) (fun h5 => ?_) (fun h5 => ?_)
      · skip
        have h5 := cI_eqT (a := 1) (b := 0) rfl rfl (by omega) (by omega) h5
        show aw_W _ _ _ _ (15, [some (.ref 46)], []) (ae_en σ α z t0 ts)
        exact absurd h5 (by decide)
      · skip
        have h5 := cI_eqF (a := 1) (b := 0) rfl rfl (by omega) (by omega) h5
        show aw_W _ _ _ _ (6, [some (.ref 46)], []) (ae_en σ α z t0 ts)
        refine aw_go 1 rfl ⟨trivial, trivial⟩ ?_
        refine aw_call rfl rfl (mr_next h0 e17) ?_
        rintro _ _ ⟨fr_7, tt_7, so_7, iz_7, rfl, rfl, ht_7⟩
        show aw_W _ _ _ _ (8, [some (.ref 46)], []) (ae_en (au σ [(37, fr_7), (38, tt_7), (39, so_7), (40, iz_7)]) α z t0 ts)
        refine aw_go 1 rfl ⟨trivial, trivial⟩ ?_
        refine aw_call rfl rfl (mrX_n ih q1 ⟨a1, a2, a3, a4, a5, a6, ht_7, (by omega), (ht.2.1 a9), a10⟩ (by simp only [mrD] at hD ⊢; omega)) ?_
        rintro _ _ ⟨k_9, op_9, fr_9, tt_9, so_9, iz_9, A_9, W_9, rfl, rfl, f1_9, f2_9, f3_9, f4_9⟩
        show aw_W _ _ _ _ (10, [some (.ref 46)], []) (ae_en (au σ [(34, nI k_9), (35, nI (hdP l1)), (36, op_9), (37, fr_9), (38, tt_9), (39, so_9), (40, iz_9)]) (au α [(40, A_9), (41, W_9)]) z t0 ts)
        refine aw_go 3 rfl ⟨trivial, trivial, trivial, trivial⟩ ?_
        refine aw_call rfl rfl (ev_Model_addStep (a := 6) (b := 0) (c := k_9) rfl (by omega)) ?_
        rintro _ _ ⟨rfl, rfl⟩
        show aw_W _ _ _ _ (14, [some (.ref 46)], []) (ae_en (au σ [(34, nI (k_9 + 1)), (35, nI (hdP l1)), (36, op_9), (37, fr_9), (38, tt_9), (39, so_9), (40, iz_9)]) (au α [(40, upd A_9 (1020 + k_9) 6), (41, upd W_9 (1020 + k_9) 0)]) z t0 ts)
        refine aw_go 3 rfl ⟨trivial, trivial, trivial, trivial⟩ ?_
        refine aw_callE rfl rfl (ev_Model_isKey (b := 14)) ?_
        show aw_W _ _ _ _ (5, [some (.ref 46)], [.int (bI ((nI (hdP l1)) < 0 ∧ so_9 = 1 ∧ iz_9 = 14))]) (ae_en (au σ [(34, nI (k_9 + 1)), (35, nI (hdP l1)), (36, op_9), (37, fr_9), (38, tt_9), (39, so_9), (40, iz_9)]) (au α [(40, upd A_9 (1020 + k_9) 6), (41, upd W_9 (1020 + k_9) 0)]) z t0 ts)
        refine aw_top (x2 := 0) (is_no (p := hdP l1) (by omega) rfl) ?_
        refine aw_go 1 rfl ⟨trivial, trivial⟩ ?_
        refine aw_br (c := (0 : Int32) = 0) (fun h5b => ?_) (fun h5b => ?_)
        · skip
          have h5b := cI_eqT (a := 0) (b := 0) rfl rfl (by omega) (by omega) h5b
          show aw_W _ _ _ _ (15, [some (.ref 46)], []) (ae_en (au σ [(34, nI (k_9 + 1)), (35, nI (hdP l1)), (36, op_9), (37, fr_9), (38, tt_9), (39, so_9), (40, iz_9)]) (au α [(40, upd A_9 (1020 + k_9) 6), (41, upd W_9 (1020 + k_9) 0)]) z t0 ts)
          refine aw_ret rfl rfl trivial ?_
          exact mrQ_bad f1_9 (by omega) (by omega) (up_out f4_9)
        · skip
          have h5b := cI_eqF (a := 0) (b := 0) rfl rfl (by omega) (by omega) h5b
          show aw_W _ _ _ _ (6, [some (.ref 46)], []) (ae_en (au σ [(34, nI (k_9 + 1)), (35, nI (hdP l1)), (36, op_9), (37, fr_9), (38, tt_9), (39, so_9), (40, iz_9)]) (au α [(40, upd A_9 (1020 + k_9) 6), (41, upd W_9 (1020 + k_9) 0)]) z t0 ts)
          exact absurd h5b (by decide)
  · rw [if_neg e] at hpp
    cases hpp
    refine aw_go 2 rfl ⟨trivial, trivial, trivial⟩ ?_
    refine aw_callE rfl rfl (ev_Model_isKey (b := 14)) ?_
    show aw_W _ _ _ _ (5, [some (.ref 46)], [.int (bI ((σ 35) < 0 ∧ (σ 39) = 1 ∧ (σ 40) = 14))]) (ae_en σ α z t0 ts)
    refine aw_top (x2 := 0) ((is_k14 a7t a5).trans (bI_0 e).symm) ?_
    refine aw_go 1 rfl ⟨trivial, trivial⟩ ?_
    refine aw_br (c := (0 : Int32) = 0) (fun h5 => ?_) (fun h5 => ?_)
    · skip
      have h5 := cI_eqT (a := 0) (b := 0) rfl rfl (by omega) (by omega) h5
      show aw_W _ _ _ _ (15, [some (.ref 46)], []) (ae_en σ α z t0 ts)
      refine aw_ret rfl rfl trivial ?_
      exact mrQ_nil h0
    · skip
      have h5 := cI_eqF (a := 0) (b := 0) rfl rfl (by omega) (by omega) h5
      show aw_W _ _ _ _ (6, [some (.ref 46)], []) (ae_en σ α z t0 ts)
      exact absurd h5 (by decide)
theorem mr_all {s m : Nat} (ih : mrX P z t0 ts s m 4) (il : mrL P z t0 ts s m 3 2 cd_Model_all) : mrX P z t0 ts s (m + 1) 2 := by
  intro σ α o l R c D hpp hP hD
  obtain ⟨D, rfl⟩ : ∃ E, D = E + 4 := ⟨D - 4, by simp only [mrD] at hD; omega⟩
  have h0 := hP
  obtain ⟨a1, a2, a3, a4, a5, a6, a7, a8, a9, a10⟩ := hP
  have a7t := a7.2.2.1
  have a7p := a7.2.1
  rw [pp] at hpp
  refine aw_ev (cd := cd_Model_all) rfl rfl rfl ?_
  rcases bP_some hpp with ⟨l1, s1, q1, hpp⟩ | ⟨l1, s1, q1, rfl⟩
  · have hp := (pp_pH _ _ _ _ _ _ _ q1).1
    have hp1 := hp.1
    have hg1 := hp.2.1 a9
    obtain ⟨R1, q2, hq⟩ := mrQ_sq2 (σ := σ) (α := α) (z := z) (t0 := t0) (ts := ts) (s := s) (o := o) (c := c) hp hpp
    show aw_W _ _ _ _ (0, [some (.ref 46)], []) (ae_en σ α z t0 ts)
    refine aw_go 1 rfl ⟨trivial, trivial⟩ ?_
    refine aw_call rfl rfl (mrX_y ih q1 h0 (by simp only [mrD] at hD ⊢; omega)) ?_
    rintro _ _ ⟨fr_1, tt_1, so_1, iz_1, rfl, rfl, ht_1⟩
    show aw_W _ _ _ _ (2, [some (.ref 46)], []) (ae_en (au σ [(34, nI (c + s1.length)), (35, (-1)), (36, nI o), (37, fr_1), (38, tt_1), (39, so_1), (40, iz_1)]) (au α [(40, putL (α 40) (1020 + c) (s1.map cA)), (41, putL (α 41) (1020 + c) (s1.map cW))]) z t0 ts)
    exact aw_mono (il _ _ o l1 R1 _ _ q2 ⟨a1, a2, a3, rfl, rfl, rfl, ht_1, by omega, hg1, a10⟩ (by simp only [mrD] at hD ⊢; omega)) (hq _ _ _ _ _ _ _)
  · have hp := (pp_pH _ _ _ _ _ _ _ q1).1
    have hp1 := hp.1
    show aw_W _ _ _ _ (0, [some (.ref 46)], []) (ae_en σ α z t0 ts)
    refine aw_go 1 rfl ⟨trivial, trivial⟩ ?_
    refine aw_call rfl rfl (mrX_n ih q1 h0 (by simp only [mrD] at hD ⊢; omega)) ?_
    rintro _ _ ⟨k_1, op_1, fr_1, tt_1, so_1, iz_1, A_1, W_1, rfl, rfl, f1_1, f2_1, f3_1, f4_1⟩
    show aw_W _ _ _ _ (2, [some (.ref 46)], []) (ae_en (au σ [(34, nI k_1), (35, nI (hdP l1)), (36, op_1), (37, fr_1), (38, tt_1), (39, so_1), (40, iz_1)]) (au α [(40, A_1), (41, W_1)]) z t0 ts)
    refine aw_go 2 rfl ⟨trivial, trivial, trivial⟩ ?_
    refine aw_callE rfl rfl (ev_Model_isKey (b := 14)) ?_
    show aw_W _ _ _ _ (5, [some (.ref 46)], [.int (bI ((nI (hdP l1)) < 0 ∧ so_1 = 1 ∧ iz_1 = 14))]) (ae_en (au σ [(34, nI k_1), (35, nI (hdP l1)), (36, op_1), (37, fr_1), (38, tt_1), (39, so_1), (40, iz_1)]) (au α [(40, A_1), (41, W_1)]) z t0 ts)
    refine aw_top (x2 := 0) (is_no (p := hdP l1) (by omega) rfl) ?_
    refine aw_go 1 rfl ⟨trivial, trivial⟩ ?_
    refine aw_br (c := (0 : Int32) = 0) (fun h5 => ?_) (fun h5 => ?_)
    · skip
      have h5 := cI_eqT (a := 0) (b := 0) rfl rfl (by omega) (by omega) h5
      show aw_W _ _ _ _ (15, [some (.ref 46)], []) (ae_en (au σ [(34, nI k_1), (35, nI (hdP l1)), (36, op_1), (37, fr_1), (38, tt_1), (39, so_1), (40, iz_1)]) (au α [(40, A_1), (41, W_1)]) z t0 ts)
      refine aw_ret rfl rfl trivial ?_
      exact mrQ_bad f1_1 (by omega) (by omega) f4_1
    · skip
      have h5 := cI_eqF (a := 0) (b := 0) rfl rfl (by omega) (by omega) h5
      show aw_W _ _ _ _ (6, [some (.ref 46)], []) (ae_en (au σ [(34, nI k_1), (35, nI (hdP l1)), (36, op_1), (37, fr_1), (38, tt_1), (39, so_1), (40, iz_1)]) (au α [(40, A_1), (41, W_1)]) z t0 ts)
      exact absurd h5 (by decide)
theorem ml_term {s m : Nat} (ih : mrX P z t0 ts s m 9) (il : mrL P z t0 ts s m 8 7 cd_Model_term) : mrL P z t0 ts s (m + 1) 8 7 cd_Model_term := by
  intro σ α o l R c D hpp hP hD
  obtain ⟨D, rfl⟩ : ∃ E, D = E + 3 := ⟨D - 3, by simp only [mrD] at hD; omega⟩
  have h0 := hP
  obtain ⟨a1, a2, a3, a4, a5, a6, a7, a8, a9, a10⟩ := hP
  have a7t := a7.2.2.1
  have a7p := a7.2.1
  rw [pp] at hpp
  by_cases e : hdT l = (-8)
  · rw [if_pos e] at hpp
    have e17 : ¬ hdT l = -17 := by rw [e]; decide
    have ht := pH_tail (l := l) e17
    have ht1 := ht.1
    have hlp := gL_pos (ht.2.1 a9)
    rcases bP_some hpp with ⟨l1, s1, q1, hpp⟩ | ⟨l1, s1, q1, rfl⟩
    · have hp := (pp_pH _ _ _ _ _ _ _ q1).1
      have hp1 := hp.1
      have hg1 := hp.2.1 (ht.2.1 a9)
      have hl1 := gL_pos hg1
      have hps : pH l l1 (s1 ++ [(-8)]).length := by rw [List.length_append, Nat.add_comm]; exact pH_trans ht hp
      obtain ⟨R1, q2, hq⟩ := mrQ_sq2 (σ := σ) (α := α) (z := z) (t0 := t0) (ts := ts) (s := s) (o := o) (c := c) hps (bP_lp hpp)
      refine aw_go 2 rfl ⟨trivial, trivial, trivial⟩ ?_
      refine aw_callE rfl rfl (ev_Model_isSign (b := 42)) ?_
      show aw_W _ _ _ _ (5, [some (.ref 46)], [.int (bI ((σ 35) < 0 ∧ (σ 39) = 3 ∧ (σ 40) = 42))]) (ae_en σ α z t0 ts)
      refine aw_top (x2 := 1) ((is_s42 a7t a5).trans (bI_1 e).symm) ?_
      refine aw_go 1 rfl ⟨trivial, trivial⟩ ?_
      refine aw_br (c := (1 : Int32) = 0) (fun h5 => ?_) (fun h5 => ?_)
      · skip
        have h5 := cI_eqT (a := 1) (b := 0) rfl rfl (by omega) (by omega) h5
        show aw_W _ _ _ _ (15, [some (.ref 46)], []) (ae_en σ α z t0 ts)
        exact absurd h5 (by decide)
      · skip
        have h5 := cI_eqF (a := 1) (b := 0) rfl rfl (by omega) (by omega) h5
        show aw_W _ _ _ _ (6, [some (.ref 46)], []) (ae_en σ α z t0 ts)
        refine aw_go 1 rfl ⟨trivial, trivial⟩ ?_
        refine aw_call rfl rfl (mr_next h0 e17) ?_
        rintro _ _ ⟨fr_7, tt_7, so_7, iz_7, rfl, rfl, ht_7⟩
        show aw_W _ _ _ _ (8, [some (.ref 46)], []) (ae_en (au σ [(37, fr_7), (38, tt_7), (39, so_7), (40, iz_7)]) α z t0 ts)
        refine aw_go 1 rfl ⟨trivial, trivial⟩ ?_
        refine aw_call rfl rfl (mrX_y ih q1 ⟨a1, a2, a3, a4, a5, a6, ht_7, (by omega), (ht.2.1 a9), a10⟩ (by simp only [mrD] at hD ⊢; omega)) ?_
        rintro _ _ ⟨fr_9, tt_9, so_9, iz_9, rfl, rfl, ht_9⟩
        show aw_W _ _ _ _ (10, [some (.ref 46)], []) (ae_en (au σ [(34, nI (c + s1.length)), (35, (-1)), (36, nI o), (37, fr_9), (38, tt_9), (39, so_9), (40, iz_9)]) (au α [(40, putL (α 40) (1020 + c) (s1.map cA)), (41, putL (α 41) (1020 + c) (s1.map cW))]) z t0 ts)
        refine aw_go 3 rfl ⟨trivial, trivial, trivial, trivial⟩ ?_
        refine aw_call rfl rfl (ev_Model_addStep (a := 42) (b := 0) (c := (c + s1.length)) rfl (by omega)) ?_
        rintro _ _ ⟨rfl, rfl⟩
        show aw_W _ _ _ _ (14, [some (.ref 46)], []) (ae_en (au σ [(34, nI ((c + s1.length) + 1)), (35, (-1)), (36, nI o), (37, fr_9), (38, tt_9), (39, so_9), (40, iz_9)]) (au α [(40, upd (putL (α 40) (1020 + c) (s1.map cA)) (1020 + (c + s1.length)) 42), (41, upd (putL (α 41) (1020 + c) (s1.map cW)) (1020 + (c + s1.length)) 0)]) z t0 ts)
        refine aw_go 1 rfl ⟨trivial, trivial⟩ ?_
        have hc1 := hps.1
        rw [up_map (g := cA) (S := α 40) (k := 1020 + c) (k2 := 1020 + (c + s1.length)) (s1 := s1) (t := -8) (v := 42) (by omega) rfl, up_map (g := cW) (S := α 41) (k := 1020 + c) (k2 := 1020 + (c + s1.length)) (s1 := s1) (t := -8) (v := 0) (by omega) rfl, show c + s1.length + 1 = c + (s1 ++ [-8]).length by rw [List.length_append]; rfl]
        exact aw_mono (il _ _ o l1 R1 _ _ q2 ⟨a1, a2, a3, rfl, rfl, rfl, ht_9, by omega, hg1, a10⟩ hD) (hq _ _ _ _ _ _ _)
    · have hp := (pp_pH _ _ _ _ _ _ _ q1).1
      have hp1 := hp.1
      have hg1 := hp.2.1 (ht.2.1 a9)
      have hl1 := gL_pos hg1
      refine aw_go 2 rfl ⟨trivial, trivial, trivial⟩ ?_
      refine aw_callE rfl rfl (ev_Model_isSign (b := 42)) ?_
      show aw_W _ _ _ _ (5, [some (.ref 46)], [.int (bI ((σ 35) < 0 ∧ (σ 39) = 3 ∧ (σ 40) = 42))]) (ae_en σ α z t0 ts)
      refine aw_top (x2 := 1) ((is_s42 a7t a5).trans (bI_1 e).symm) ?_
      refine aw_go 1 rfl ⟨trivial, trivial⟩ ?_
      refine aw_br (c := (1 : Int32) = 0) (fun h5 => ?_) (fun h5 => ?_)
      · skip
        have h5 := cI_eqT (a := 1) (b := 0) rfl rfl (by omega) (by omega) h5
        show aw_W _ _ _ _ (15, [some (.ref 46)], []) (ae_en σ α z t0 ts)
        exact absurd h5 (by decide)
      · skip
        have h5 := cI_eqF (a := 1) (b := 0) rfl rfl (by omega) (by omega) h5
        show aw_W _ _ _ _ (6, [some (.ref 46)], []) (ae_en σ α z t0 ts)
        refine aw_go 1 rfl ⟨trivial, trivial⟩ ?_
        refine aw_call rfl rfl (mr_next h0 e17) ?_
        rintro _ _ ⟨fr_7, tt_7, so_7, iz_7, rfl, rfl, ht_7⟩
        show aw_W _ _ _ _ (8, [some (.ref 46)], []) (ae_en (au σ [(37, fr_7), (38, tt_7), (39, so_7), (40, iz_7)]) α z t0 ts)
        refine aw_go 1 rfl ⟨trivial, trivial⟩ ?_
        refine aw_call rfl rfl (mrX_n ih q1 ⟨a1, a2, a3, a4, a5, a6, ht_7, (by omega), (ht.2.1 a9), a10⟩ (by simp only [mrD] at hD ⊢; omega)) ?_
        rintro _ _ ⟨k_9, op_9, fr_9, tt_9, so_9, iz_9, A_9, W_9, rfl, rfl, f1_9, f2_9, f3_9, f4_9⟩
        show aw_W _ _ _ _ (10, [some (.ref 46)], []) (ae_en (au σ [(34, nI k_9), (35, nI (hdP l1)), (36, op_9), (37, fr_9), (38, tt_9), (39, so_9), (40, iz_9)]) (au α [(40, A_9), (41, W_9)]) z t0 ts)
        refine aw_go 3 rfl ⟨trivial, trivial, trivial, trivial⟩ ?_
        refine aw_call rfl rfl (ev_Model_addStep (a := 42) (b := 0) (c := k_9) rfl (by omega)) ?_
        rintro _ _ ⟨rfl, rfl⟩
        show aw_W _ _ _ _ (14, [some (.ref 46)], []) (ae_en (au σ [(34, nI (k_9 + 1)), (35, nI (hdP l1)), (36, op_9), (37, fr_9), (38, tt_9), (39, so_9), (40, iz_9)]) (au α [(40, upd A_9 (1020 + k_9) 42), (41, upd W_9 (1020 + k_9) 0)]) z t0 ts)
        refine aw_go 3 rfl ⟨trivial, trivial, trivial, trivial⟩ ?_
        refine aw_callE rfl rfl (ev_Model_isSign (b := 42)) ?_
        show aw_W _ _ _ _ (5, [some (.ref 46)], [.int (bI ((nI (hdP l1)) < 0 ∧ so_9 = 3 ∧ iz_9 = 42))]) (ae_en (au σ [(34, nI (k_9 + 1)), (35, nI (hdP l1)), (36, op_9), (37, fr_9), (38, tt_9), (39, so_9), (40, iz_9)]) (au α [(40, upd A_9 (1020 + k_9) 42), (41, upd W_9 (1020 + k_9) 0)]) z t0 ts)
        refine aw_top (x2 := 0) (is_no (p := hdP l1) (by omega) rfl) ?_
        refine aw_go 1 rfl ⟨trivial, trivial⟩ ?_
        refine aw_br (c := (0 : Int32) = 0) (fun h5b => ?_) (fun h5b => ?_)
        · skip
          have h5b := cI_eqT (a := 0) (b := 0) rfl rfl (by omega) (by omega) h5b
          show aw_W _ _ _ _ (15, [some (.ref 46)], []) (ae_en (au σ [(34, nI (k_9 + 1)), (35, nI (hdP l1)), (36, op_9), (37, fr_9), (38, tt_9), (39, so_9), (40, iz_9)]) (au α [(40, upd A_9 (1020 + k_9) 42), (41, upd W_9 (1020 + k_9) 0)]) z t0 ts)
          refine aw_ret rfl rfl trivial ?_
          exact mrQ_bad f1_9 (by omega) (by omega) (up_out f4_9)
        · skip
          have h5b := cI_eqF (a := 0) (b := 0) rfl rfl (by omega) (by omega) h5b
          show aw_W _ _ _ _ (6, [some (.ref 46)], []) (ae_en (au σ [(34, nI (k_9 + 1)), (35, nI (hdP l1)), (36, op_9), (37, fr_9), (38, tt_9), (39, so_9), (40, iz_9)]) (au α [(40, upd A_9 (1020 + k_9) 42), (41, upd W_9 (1020 + k_9) 0)]) z t0 ts)
          exact absurd h5b (by decide)
  · rw [if_neg e] at hpp
    cases hpp
    refine aw_go 2 rfl ⟨trivial, trivial, trivial⟩ ?_
    refine aw_callE rfl rfl (ev_Model_isSign (b := 42)) ?_
    show aw_W _ _ _ _ (5, [some (.ref 46)], [.int (bI ((σ 35) < 0 ∧ (σ 39) = 3 ∧ (σ 40) = 42))]) (ae_en σ α z t0 ts)
    refine aw_top (x2 := 0) ((is_s42 a7t a5).trans (bI_0 e).symm) ?_
    refine aw_go 1 rfl ⟨trivial, trivial⟩ ?_
    refine aw_br (c := (0 : Int32) = 0) (fun h5 => ?_) (fun h5 => ?_)
    · skip
      have h5 := cI_eqT (a := 0) (b := 0) rfl rfl (by omega) (by omega) h5
      show aw_W _ _ _ _ (15, [some (.ref 46)], []) (ae_en σ α z t0 ts)
      refine aw_ret rfl rfl trivial ?_
      exact mrQ_nil h0
    · skip
      have h5 := cI_eqF (a := 0) (b := 0) rfl rfl (by omega) (by omega) h5
      show aw_W _ _ _ _ (6, [some (.ref 46)], []) (ae_en σ α z t0 ts)
      exact absurd h5 (by decide)
theorem mr_term {s m : Nat} (ih : mrX P z t0 ts s m 9) (il : mrL P z t0 ts s m 8 7 cd_Model_term) : mrX P z t0 ts s (m + 1) 7 := by
  intro σ α o l R c D hpp hP hD
  obtain ⟨D, rfl⟩ : ∃ E, D = E + 4 := ⟨D - 4, by simp only [mrD] at hD; omega⟩
  have h0 := hP
  obtain ⟨a1, a2, a3, a4, a5, a6, a7, a8, a9, a10⟩ := hP
  have a7t := a7.2.2.1
  have a7p := a7.2.1
  rw [pp] at hpp
  refine aw_ev (cd := cd_Model_term) rfl rfl rfl ?_
  rcases bP_some hpp with ⟨l1, s1, q1, hpp⟩ | ⟨l1, s1, q1, rfl⟩
  · have hp := (pp_pH _ _ _ _ _ _ _ q1).1
    have hp1 := hp.1
    have hg1 := hp.2.1 a9
    obtain ⟨R1, q2, hq⟩ := mrQ_sq2 (σ := σ) (α := α) (z := z) (t0 := t0) (ts := ts) (s := s) (o := o) (c := c) hp hpp
    show aw_W _ _ _ _ (0, [some (.ref 46)], []) (ae_en σ α z t0 ts)
    refine aw_go 1 rfl ⟨trivial, trivial⟩ ?_
    refine aw_call rfl rfl (mrX_y ih q1 h0 (by simp only [mrD] at hD ⊢; omega)) ?_
    rintro _ _ ⟨fr_1, tt_1, so_1, iz_1, rfl, rfl, ht_1⟩
    show aw_W _ _ _ _ (2, [some (.ref 46)], []) (ae_en (au σ [(34, nI (c + s1.length)), (35, (-1)), (36, nI o), (37, fr_1), (38, tt_1), (39, so_1), (40, iz_1)]) (au α [(40, putL (α 40) (1020 + c) (s1.map cA)), (41, putL (α 41) (1020 + c) (s1.map cW))]) z t0 ts)
    exact aw_mono (il _ _ o l1 R1 _ _ q2 ⟨a1, a2, a3, rfl, rfl, rfl, ht_1, by omega, hg1, a10⟩ (by simp only [mrD] at hD ⊢; omega)) (hq _ _ _ _ _ _ _)
  · have hp := (pp_pH _ _ _ _ _ _ _ q1).1
    have hp1 := hp.1
    show aw_W _ _ _ _ (0, [some (.ref 46)], []) (ae_en σ α z t0 ts)
    refine aw_go 1 rfl ⟨trivial, trivial⟩ ?_
    refine aw_call rfl rfl (mrX_n ih q1 h0 (by simp only [mrD] at hD ⊢; omega)) ?_
    rintro _ _ ⟨k_1, op_1, fr_1, tt_1, so_1, iz_1, A_1, W_1, rfl, rfl, f1_1, f2_1, f3_1, f4_1⟩
    show aw_W _ _ _ _ (2, [some (.ref 46)], []) (ae_en (au σ [(34, nI k_1), (35, nI (hdP l1)), (36, op_1), (37, fr_1), (38, tt_1), (39, so_1), (40, iz_1)]) (au α [(40, A_1), (41, W_1)]) z t0 ts)
    refine aw_go 2 rfl ⟨trivial, trivial, trivial⟩ ?_
    refine aw_callE rfl rfl (ev_Model_isSign (b := 42)) ?_
    show aw_W _ _ _ _ (5, [some (.ref 46)], [.int (bI ((nI (hdP l1)) < 0 ∧ so_1 = 3 ∧ iz_1 = 42))]) (ae_en (au σ [(34, nI k_1), (35, nI (hdP l1)), (36, op_1), (37, fr_1), (38, tt_1), (39, so_1), (40, iz_1)]) (au α [(40, A_1), (41, W_1)]) z t0 ts)
    refine aw_top (x2 := 0) (is_no (p := hdP l1) (by omega) rfl) ?_
    refine aw_go 1 rfl ⟨trivial, trivial⟩ ?_
    refine aw_br (c := (0 : Int32) = 0) (fun h5 => ?_) (fun h5 => ?_)
    · skip
      have h5 := cI_eqT (a := 0) (b := 0) rfl rfl (by omega) (by omega) h5
      show aw_W _ _ _ _ (15, [some (.ref 46)], []) (ae_en (au σ [(34, nI k_1), (35, nI (hdP l1)), (36, op_1), (37, fr_1), (38, tt_1), (39, so_1), (40, iz_1)]) (au α [(40, A_1), (41, W_1)]) z t0 ts)
      refine aw_ret rfl rfl trivial ?_
      exact mrQ_bad f1_1 (by omega) (by omega) f4_1
    · skip
      have h5 := cI_eqF (a := 0) (b := 0) rfl rfl (by omega) (by omega) h5
      show aw_W _ _ _ _ (6, [some (.ref 46)], []) (ae_en (au σ [(34, nI k_1), (35, nI (hdP l1)), (36, op_1), (37, fr_1), (38, tt_1), (39, so_1), (40, iz_1)]) (au α [(40, A_1), (41, W_1)]) z t0 ts)
      exact absurd h5 (by decide)
theorem ml_sum {s m : Nat} (ih : mrX P z t0 ts s m 7) (il : mrM P z t0 ts s m) : mrM P z t0 ts s (m + 1) := by
  intro σ α o l R c D x hpp hP hD
  obtain ⟨D, rfl⟩ : ∃ E, D = E + 3 := ⟨D - 3, by simp only [mrD] at hD; omega⟩
  have h0 := hP
  obtain ⟨a1, a2, a3, a4, a5, a6, a7, a8, a9, a10⟩ := hP
  have a7t := a7.2.2.1
  have a7p := a7.2.1
  rw [pp] at hpp
  by_cases e : hdT l = -6 ∨ hdT l = -7
  · rw [if_pos e] at hpp
    have e17 : ¬ hdT l = -17 := by rcases e with e | e <;> (rw [e]; decide)
    have ht := pH_tail (l := l) e17
    have ht1 := ht.1
    have hlp := gL_pos (ht.2.1 a9)
    obtain ⟨b1, b2⟩ := tk_bin a7t (Or.inr (Or.inr e))
    rcases bP_some hpp with ⟨l1, s1, q1, hpp⟩ | ⟨l1, s1, q1, rfl⟩
    · have hp := (pp_pH _ _ _ _ _ _ _ q1).1
      have hp1 := hp.1
      have hg1 := hp.2.1 (ht.2.1 a9)
      have hl1 := gL_pos hg1
      have hps : pH l l1 (s1 ++ [hdT l]).length := by rw [List.length_append, Nat.add_comm]; exact pH_trans ht hp
      obtain ⟨R1, q2, hq⟩ := mrQ_sq2 (σ := σ) (α := α) (z := z) (t0 := t0) (ts := ts) (s := s) (o := o) (c := c) hps (bP_lp hpp)
      refine aw_go 2 rfl ⟨trivial, trivial, trivial⟩ ?_
      refine aw_callE rfl rfl (ev_Model_isSign (b := 43)) ?_
      show aw_W _ _ _ _ (5, [some (.ref 46), x], [.int (bI ((σ 35) < 0 ∧ (σ 39) = 3 ∧ (σ 40) = 43))]) (ae_en σ α z t0 ts)
      rw [show bI ((σ 35) < 0 ∧ (σ 39) = 3 ∧ (σ 40) = 43) = bI (hdT l = -6) from is_s43 a7t a5]
      refine aw_go 1 rfl ⟨trivial, trivial⟩ ?_
      refine aw_br (c := ¬ (bI (hdT l = -6)) = 0) (fun h5 => ?_) (fun h5 => ?_)
      · skip
        have h5 := bI_t h5
        show aw_W _ _ _ _ (10, [some (.ref 46), x], []) (ae_en σ α z t0 ts)
        refine aw_go 4 rfl ⟨trivial, trivial, trivial, trivial, trivial⟩ ?_
        show aw_W _ _ _ _ (14, [some (.ref 46), some (.int (σ 40))], [.ref 46]) (ae_en σ α z t0 ts)
        refine aw_call rfl rfl (mr_next h0 e17) ?_
        rintro _ _ ⟨fr_14, tt_14, so_14, iz_14, rfl, rfl, ht_14⟩
        show aw_W _ _ _ _ (15, [some (.ref 46), some (.int (σ 40))], []) (ae_en (au σ [(37, fr_14), (38, tt_14), (39, so_14), (40, iz_14)]) α z t0 ts)
        refine aw_go 1 rfl ⟨trivial, trivial⟩ ?_
        refine aw_call rfl rfl (mrX_y ih q1 ⟨a1, a2, a3, a4, a5, a6, ht_14, (by omega), (ht.2.1 a9), a10⟩ (by simp only [mrD] at hD ⊢; omega)) ?_
        rintro _ _ ⟨fr_16, tt_16, so_16, iz_16, rfl, rfl, ht_16⟩
        show aw_W _ _ _ _ (17, [some (.ref 46), some (.int (σ 40))], []) (ae_en (au σ [(34, nI (c + s1.length)), (35, (-1)), (36, nI o), (37, fr_16), (38, tt_16), (39, so_16), (40, iz_16)]) (au α [(40, putL (α 40) (1020 + c) (s1.map cA)), (41, putL (α 41) (1020 + c) (s1.map cW))]) z t0 ts)
        refine aw_go 3 rfl ⟨trivial, trivial, trivial, trivial⟩ ?_
        refine aw_call rfl rfl (ev_Model_addStep (a := (σ 40)) (b := 0) (c := (c + s1.length)) rfl (by omega)) ?_
        rintro _ _ ⟨rfl, rfl⟩
        show aw_W _ _ _ _ (21, [some (.ref 46), some (.int (σ 40))], []) (ae_en (au σ [(34, nI ((c + s1.length) + 1)), (35, (-1)), (36, nI o), (37, fr_16), (38, tt_16), (39, so_16), (40, iz_16)]) (au α [(40, upd (putL (α 40) (1020 + c) (s1.map cA)) (1020 + (c + s1.length)) (σ 40)), (41, upd (putL (α 41) (1020 + c) (s1.map cW)) (1020 + (c + s1.length)) 0)]) z t0 ts)
        refine aw_go 1 rfl ⟨trivial, trivial⟩ ?_
        have hc1 := hps.1
        rw [up_map (g := cA) (S := α 40) (k := 1020 + c) (k2 := 1020 + (c + s1.length)) (s1 := s1) (by omega) b1, up_map (g := cW) (S := α 41) (k := 1020 + c) (k2 := 1020 + (c + s1.length)) (s1 := s1) (by omega) b2, show c + s1.length + 1 = c + (s1 ++ [hdT l]).length by rw [List.length_append]; rfl]
        exact aw_mono (il _ _ o l1 R1 _ _ _ q2 ⟨a1, a2, a3, rfl, rfl, rfl, ht_16, by omega, hg1, a10⟩ hD) (hq _ _ _ _ _ _ _)
      · skip
        have h5 := bI_f (Classical.not_not.mp h5)
        show aw_W _ _ _ _ (6, [some (.ref 46), x], []) (ae_en σ α z t0 ts)
        refine aw_go 2 rfl ⟨trivial, trivial, trivial⟩ ?_
        refine aw_callE rfl rfl (ev_Model_isSign (b := 45)) ?_
        show aw_W _ _ _ _ (9, [some (.ref 46), x], [.int (bI ((σ 35) < 0 ∧ (σ 39) = 3 ∧ (σ 40) = 45))]) (ae_en σ α z t0 ts)
        rw [show bI ((σ 35) < 0 ∧ (σ 39) = 3 ∧ (σ 40) = 45) = bI (hdT l = -7) from is_s45 a7t a5]
        refine aw_go 1 rfl ⟨trivial, trivial⟩ ?_
        refine aw_br (c := (bI (hdT l = -7)) = 0) (fun h9 => ?_) (fun h9 => ?_)
        · skip
          have h9 := bI_f h9
          show aw_W _ _ _ _ (22, [some (.ref 46), x], []) (ae_en σ α z t0 ts)
          exact absurd e (fun q => q.elim h5 h9)
        · skip
          have h9 := bI_t h9
          show aw_W _ _ _ _ (10, [some (.ref 46), x], []) (ae_en σ α z t0 ts)
          refine aw_go 4 rfl ⟨trivial, trivial, trivial, trivial, trivial⟩ ?_
          show aw_W _ _ _ _ (14, [some (.ref 46), some (.int (σ 40))], [.ref 46]) (ae_en σ α z t0 ts)
          refine aw_call rfl rfl (mr_next h0 e17) ?_
          rintro _ _ ⟨fr_14, tt_14, so_14, iz_14, rfl, rfl, ht_14⟩
          show aw_W _ _ _ _ (15, [some (.ref 46), some (.int (σ 40))], []) (ae_en (au σ [(37, fr_14), (38, tt_14), (39, so_14), (40, iz_14)]) α z t0 ts)
          refine aw_go 1 rfl ⟨trivial, trivial⟩ ?_
          refine aw_call rfl rfl (mrX_y ih q1 ⟨a1, a2, a3, a4, a5, a6, ht_14, (by omega), (ht.2.1 a9), a10⟩ (by simp only [mrD] at hD ⊢; omega)) ?_
          rintro _ _ ⟨fr_16, tt_16, so_16, iz_16, rfl, rfl, ht_16⟩
          show aw_W _ _ _ _ (17, [some (.ref 46), some (.int (σ 40))], []) (ae_en (au σ [(34, nI (c + s1.length)), (35, (-1)), (36, nI o), (37, fr_16), (38, tt_16), (39, so_16), (40, iz_16)]) (au α [(40, putL (α 40) (1020 + c) (s1.map cA)), (41, putL (α 41) (1020 + c) (s1.map cW))]) z t0 ts)
          refine aw_go 3 rfl ⟨trivial, trivial, trivial, trivial⟩ ?_
          refine aw_call rfl rfl (ev_Model_addStep (a := (σ 40)) (b := 0) (c := (c + s1.length)) rfl (by omega)) ?_
          rintro _ _ ⟨rfl, rfl⟩
          show aw_W _ _ _ _ (21, [some (.ref 46), some (.int (σ 40))], []) (ae_en (au σ [(34, nI ((c + s1.length) + 1)), (35, (-1)), (36, nI o), (37, fr_16), (38, tt_16), (39, so_16), (40, iz_16)]) (au α [(40, upd (putL (α 40) (1020 + c) (s1.map cA)) (1020 + (c + s1.length)) (σ 40)), (41, upd (putL (α 41) (1020 + c) (s1.map cW)) (1020 + (c + s1.length)) 0)]) z t0 ts)
          refine aw_go 1 rfl ⟨trivial, trivial⟩ ?_
          have hc1 := hps.1
          rw [up_map (g := cA) (S := α 40) (k := 1020 + c) (k2 := 1020 + (c + s1.length)) (s1 := s1) (by omega) b1, up_map (g := cW) (S := α 41) (k := 1020 + c) (k2 := 1020 + (c + s1.length)) (s1 := s1) (by omega) b2, show c + s1.length + 1 = c + (s1 ++ [hdT l]).length by rw [List.length_append]; rfl]
          exact aw_mono (il _ _ o l1 R1 _ _ _ q2 ⟨a1, a2, a3, rfl, rfl, rfl, ht_16, by omega, hg1, a10⟩ hD) (hq _ _ _ _ _ _ _)
    · have hp := (pp_pH _ _ _ _ _ _ _ q1).1
      have hp1 := hp.1
      have hg1 := hp.2.1 (ht.2.1 a9)
      have hl1 := gL_pos hg1
      refine aw_go 2 rfl ⟨trivial, trivial, trivial⟩ ?_
      refine aw_callE rfl rfl (ev_Model_isSign (b := 43)) ?_
      show aw_W _ _ _ _ (5, [some (.ref 46), x], [.int (bI ((σ 35) < 0 ∧ (σ 39) = 3 ∧ (σ 40) = 43))]) (ae_en σ α z t0 ts)
      rw [show bI ((σ 35) < 0 ∧ (σ 39) = 3 ∧ (σ 40) = 43) = bI (hdT l = -6) from is_s43 a7t a5]
      refine aw_go 1 rfl ⟨trivial, trivial⟩ ?_
      refine aw_br (c := ¬ (bI (hdT l = -6)) = 0) (fun h5 => ?_) (fun h5 => ?_)
      · skip
        have h5 := bI_t h5
        show aw_W _ _ _ _ (10, [some (.ref 46), x], []) (ae_en σ α z t0 ts)
        refine aw_go 4 rfl ⟨trivial, trivial, trivial, trivial, trivial⟩ ?_
        show aw_W _ _ _ _ (14, [some (.ref 46), some (.int (σ 40))], [.ref 46]) (ae_en σ α z t0 ts)
        refine aw_call rfl rfl (mr_next h0 e17) ?_
        rintro _ _ ⟨fr_14, tt_14, so_14, iz_14, rfl, rfl, ht_14⟩
        show aw_W _ _ _ _ (15, [some (.ref 46), some (.int (σ 40))], []) (ae_en (au σ [(37, fr_14), (38, tt_14), (39, so_14), (40, iz_14)]) α z t0 ts)
        refine aw_go 1 rfl ⟨trivial, trivial⟩ ?_
        refine aw_call rfl rfl (mrX_n ih q1 ⟨a1, a2, a3, a4, a5, a6, ht_14, (by omega), (ht.2.1 a9), a10⟩ (by simp only [mrD] at hD ⊢; omega)) ?_
        rintro _ _ ⟨k_16, op_16, fr_16, tt_16, so_16, iz_16, A_16, W_16, rfl, rfl, f1_16, f2_16, f3_16, f4_16⟩
        show aw_W _ _ _ _ (17, [some (.ref 46), some (.int (σ 40))], []) (ae_en (au σ [(34, nI k_16), (35, nI (hdP l1)), (36, op_16), (37, fr_16), (38, tt_16), (39, so_16), (40, iz_16)]) (au α [(40, A_16), (41, W_16)]) z t0 ts)
        refine aw_go 3 rfl ⟨trivial, trivial, trivial, trivial⟩ ?_
        refine aw_call rfl rfl (ev_Model_addStep (a := (σ 40)) (b := 0) (c := k_16) rfl (by omega)) ?_
        rintro _ _ ⟨rfl, rfl⟩
        show aw_W _ _ _ _ (21, [some (.ref 46), some (.int (σ 40))], []) (ae_en (au σ [(34, nI (k_16 + 1)), (35, nI (hdP l1)), (36, op_16), (37, fr_16), (38, tt_16), (39, so_16), (40, iz_16)]) (au α [(40, upd A_16 (1020 + k_16) (σ 40)), (41, upd W_16 (1020 + k_16) 0)]) z t0 ts)
        refine aw_go 3 rfl ⟨trivial, trivial, trivial, trivial⟩ ?_
        refine aw_callE rfl rfl (ev_Model_isSign (b := 43)) ?_
        show aw_W _ _ _ _ (5, [some (.ref 46), some (.int (σ 40))], [.int (bI ((nI (hdP l1)) < 0 ∧ so_16 = 3 ∧ iz_16 = 43))]) (ae_en (au σ [(34, nI (k_16 + 1)), (35, nI (hdP l1)), (36, op_16), (37, fr_16), (38, tt_16), (39, so_16), (40, iz_16)]) (au α [(40, upd A_16 (1020 + k_16) (σ 40)), (41, upd W_16 (1020 + k_16) 0)]) z t0 ts)
        refine aw_top (x2 := 0) (is_no (p := hdP l1) (by omega) rfl) ?_
        refine aw_go 1 rfl ⟨trivial, trivial⟩ ?_
        refine aw_br (c := ¬ (0 : Int32) = 0) (fun h5b => ?_) (fun h5b => ?_)
        · skip
          have h5b := cI_eqF (a := 0) (b := 0) rfl rfl (by omega) (by omega) h5b
          show aw_W _ _ _ _ (10, [some (.ref 46), some (.int (σ 40))], []) (ae_en (au σ [(34, nI (k_16 + 1)), (35, nI (hdP l1)), (36, op_16), (37, fr_16), (38, tt_16), (39, so_16), (40, iz_16)]) (au α [(40, upd A_16 (1020 + k_16) (σ 40)), (41, upd W_16 (1020 + k_16) 0)]) z t0 ts)
          exact absurd h5b (by decide)
        · skip
          have h5b := Classical.not_not.mp h5b
          have h5b := cI_eqT (a := 0) (b := 0) rfl rfl (by omega) (by omega) h5b
          show aw_W _ _ _ _ (6, [some (.ref 46), some (.int (σ 40))], []) (ae_en (au σ [(34, nI (k_16 + 1)), (35, nI (hdP l1)), (36, op_16), (37, fr_16), (38, tt_16), (39, so_16), (40, iz_16)]) (au α [(40, upd A_16 (1020 + k_16) (σ 40)), (41, upd W_16 (1020 + k_16) 0)]) z t0 ts)
          refine aw_go 2 rfl ⟨trivial, trivial, trivial⟩ ?_
          refine aw_callE rfl rfl (ev_Model_isSign (b := 45)) ?_
          show aw_W _ _ _ _ (9, [some (.ref 46), some (.int (σ 40))], [.int (bI ((nI (hdP l1)) < 0 ∧ so_16 = 3 ∧ iz_16 = 45))]) (ae_en (au σ [(34, nI (k_16 + 1)), (35, nI (hdP l1)), (36, op_16), (37, fr_16), (38, tt_16), (39, so_16), (40, iz_16)]) (au α [(40, upd A_16 (1020 + k_16) (σ 40)), (41, upd W_16 (1020 + k_16) 0)]) z t0 ts)
          refine aw_top (x2 := 0) (is_no (p := hdP l1) (by omega) rfl) ?_
          refine aw_go 1 rfl ⟨trivial, trivial⟩ ?_
          refine aw_br (c := (0 : Int32) = 0) (fun h9 => ?_) (fun h9 => ?_)
          · skip
            have h9 := cI_eqT (a := 0) (b := 0) rfl rfl (by omega) (by omega) h9
            show aw_W _ _ _ _ (22, [some (.ref 46), some (.int (σ 40))], []) (ae_en (au σ [(34, nI (k_16 + 1)), (35, nI (hdP l1)), (36, op_16), (37, fr_16), (38, tt_16), (39, so_16), (40, iz_16)]) (au α [(40, upd A_16 (1020 + k_16) (σ 40)), (41, upd W_16 (1020 + k_16) 0)]) z t0 ts)
            refine aw_ret rfl rfl trivial ?_
            exact mrQ_bad f1_16 (by omega) (by omega) (up_out f4_16)
          · skip
            have h9 := cI_eqF (a := 0) (b := 0) rfl rfl (by omega) (by omega) h9
            show aw_W _ _ _ _ (10, [some (.ref 46), some (.int (σ 40))], []) (ae_en (au σ [(34, nI (k_16 + 1)), (35, nI (hdP l1)), (36, op_16), (37, fr_16), (38, tt_16), (39, so_16), (40, iz_16)]) (au α [(40, upd A_16 (1020 + k_16) (σ 40)), (41, upd W_16 (1020 + k_16) 0)]) z t0 ts)
            exact absurd h9 (by decide)
      · skip
        have h5 := bI_f (Classical.not_not.mp h5)
        show aw_W _ _ _ _ (6, [some (.ref 46), x], []) (ae_en σ α z t0 ts)
        refine aw_go 2 rfl ⟨trivial, trivial, trivial⟩ ?_
        refine aw_callE rfl rfl (ev_Model_isSign (b := 45)) ?_
        show aw_W _ _ _ _ (9, [some (.ref 46), x], [.int (bI ((σ 35) < 0 ∧ (σ 39) = 3 ∧ (σ 40) = 45))]) (ae_en σ α z t0 ts)
        rw [show bI ((σ 35) < 0 ∧ (σ 39) = 3 ∧ (σ 40) = 45) = bI (hdT l = -7) from is_s45 a7t a5]
        refine aw_go 1 rfl ⟨trivial, trivial⟩ ?_
        refine aw_br (c := (bI (hdT l = -7)) = 0) (fun h9 => ?_) (fun h9 => ?_)
        · skip
          have h9 := bI_f h9
          show aw_W _ _ _ _ (22, [some (.ref 46), x], []) (ae_en σ α z t0 ts)
          exact absurd e (fun q => q.elim h5 h9)
        · skip
          have h9 := bI_t h9
          show aw_W _ _ _ _ (10, [some (.ref 46), x], []) (ae_en σ α z t0 ts)
          refine aw_go 4 rfl ⟨trivial, trivial, trivial, trivial, trivial⟩ ?_
          show aw_W _ _ _ _ (14, [some (.ref 46), some (.int (σ 40))], [.ref 46]) (ae_en σ α z t0 ts)
          refine aw_call rfl rfl (mr_next h0 e17) ?_
          rintro _ _ ⟨fr_14, tt_14, so_14, iz_14, rfl, rfl, ht_14⟩
          show aw_W _ _ _ _ (15, [some (.ref 46), some (.int (σ 40))], []) (ae_en (au σ [(37, fr_14), (38, tt_14), (39, so_14), (40, iz_14)]) α z t0 ts)
          refine aw_go 1 rfl ⟨trivial, trivial⟩ ?_
          refine aw_call rfl rfl (mrX_n ih q1 ⟨a1, a2, a3, a4, a5, a6, ht_14, (by omega), (ht.2.1 a9), a10⟩ (by simp only [mrD] at hD ⊢; omega)) ?_
          rintro _ _ ⟨k_16, op_16, fr_16, tt_16, so_16, iz_16, A_16, W_16, rfl, rfl, f1_16, f2_16, f3_16, f4_16⟩
          show aw_W _ _ _ _ (17, [some (.ref 46), some (.int (σ 40))], []) (ae_en (au σ [(34, nI k_16), (35, nI (hdP l1)), (36, op_16), (37, fr_16), (38, tt_16), (39, so_16), (40, iz_16)]) (au α [(40, A_16), (41, W_16)]) z t0 ts)
          refine aw_go 3 rfl ⟨trivial, trivial, trivial, trivial⟩ ?_
          refine aw_call rfl rfl (ev_Model_addStep (a := (σ 40)) (b := 0) (c := k_16) rfl (by omega)) ?_
          rintro _ _ ⟨rfl, rfl⟩
          show aw_W _ _ _ _ (21, [some (.ref 46), some (.int (σ 40))], []) (ae_en (au σ [(34, nI (k_16 + 1)), (35, nI (hdP l1)), (36, op_16), (37, fr_16), (38, tt_16), (39, so_16), (40, iz_16)]) (au α [(40, upd A_16 (1020 + k_16) (σ 40)), (41, upd W_16 (1020 + k_16) 0)]) z t0 ts)
          refine aw_go 3 rfl ⟨trivial, trivial, trivial, trivial⟩ ?_
          refine aw_callE rfl rfl (ev_Model_isSign (b := 43)) ?_
          show aw_W _ _ _ _ (5, [some (.ref 46), some (.int (σ 40))], [.int (bI ((nI (hdP l1)) < 0 ∧ so_16 = 3 ∧ iz_16 = 43))]) (ae_en (au σ [(34, nI (k_16 + 1)), (35, nI (hdP l1)), (36, op_16), (37, fr_16), (38, tt_16), (39, so_16), (40, iz_16)]) (au α [(40, upd A_16 (1020 + k_16) (σ 40)), (41, upd W_16 (1020 + k_16) 0)]) z t0 ts)
          refine aw_top (x2 := 0) (is_no (p := hdP l1) (by omega) rfl) ?_
          refine aw_go 1 rfl ⟨trivial, trivial⟩ ?_
          refine aw_br (c := ¬ (0 : Int32) = 0) (fun h5b => ?_) (fun h5b => ?_)
          · skip
            have h5b := cI_eqF (a := 0) (b := 0) rfl rfl (by omega) (by omega) h5b
            show aw_W _ _ _ _ (10, [some (.ref 46), some (.int (σ 40))], []) (ae_en (au σ [(34, nI (k_16 + 1)), (35, nI (hdP l1)), (36, op_16), (37, fr_16), (38, tt_16), (39, so_16), (40, iz_16)]) (au α [(40, upd A_16 (1020 + k_16) (σ 40)), (41, upd W_16 (1020 + k_16) 0)]) z t0 ts)
            exact absurd h5b (by decide)
          · skip
            have h5b := Classical.not_not.mp h5b
            have h5b := cI_eqT (a := 0) (b := 0) rfl rfl (by omega) (by omega) h5b
            show aw_W _ _ _ _ (6, [some (.ref 46), some (.int (σ 40))], []) (ae_en (au σ [(34, nI (k_16 + 1)), (35, nI (hdP l1)), (36, op_16), (37, fr_16), (38, tt_16), (39, so_16), (40, iz_16)]) (au α [(40, upd A_16 (1020 + k_16) (σ 40)), (41, upd W_16 (1020 + k_16) 0)]) z t0 ts)
            refine aw_go 2 rfl ⟨trivial, trivial, trivial⟩ ?_
            refine aw_callE rfl rfl (ev_Model_isSign (b := 45)) ?_
            show aw_W _ _ _ _ (9, [some (.ref 46), some (.int (σ 40))], [.int (bI ((nI (hdP l1)) < 0 ∧ so_16 = 3 ∧ iz_16 = 45))]) (ae_en (au σ [(34, nI (k_16 + 1)), (35, nI (hdP l1)), (36, op_16), (37, fr_16), (38, tt_16), (39, so_16), (40, iz_16)]) (au α [(40, upd A_16 (1020 + k_16) (σ 40)), (41, upd W_16 (1020 + k_16) 0)]) z t0 ts)
            refine aw_top (x2 := 0) (is_no (p := hdP l1) (by omega) rfl) ?_
            refine aw_go 1 rfl ⟨trivial, trivial⟩ ?_
            refine aw_br (c := (0 : Int32) = 0) (fun h9b => ?_) (fun h9b => ?_)
            · skip
              have h9b := cI_eqT (a := 0) (b := 0) rfl rfl (by omega) (by omega) h9b
              show aw_W _ _ _ _ (22, [some (.ref 46), some (.int (σ 40))], []) (ae_en (au σ [(34, nI (k_16 + 1)), (35, nI (hdP l1)), (36, op_16), (37, fr_16), (38, tt_16), (39, so_16), (40, iz_16)]) (au α [(40, upd A_16 (1020 + k_16) (σ 40)), (41, upd W_16 (1020 + k_16) 0)]) z t0 ts)
              refine aw_ret rfl rfl trivial ?_
              exact mrQ_bad f1_16 (by omega) (by omega) (up_out f4_16)
            · skip
              have h9b := cI_eqF (a := 0) (b := 0) rfl rfl (by omega) (by omega) h9b
              show aw_W _ _ _ _ (10, [some (.ref 46), some (.int (σ 40))], []) (ae_en (au σ [(34, nI (k_16 + 1)), (35, nI (hdP l1)), (36, op_16), (37, fr_16), (38, tt_16), (39, so_16), (40, iz_16)]) (au α [(40, upd A_16 (1020 + k_16) (σ 40)), (41, upd W_16 (1020 + k_16) 0)]) z t0 ts)
              exact absurd h9b (by decide)
  · rw [if_neg e] at hpp
    cases hpp
    refine aw_go 2 rfl ⟨trivial, trivial, trivial⟩ ?_
    refine aw_callE rfl rfl (ev_Model_isSign (b := 43)) ?_
    show aw_W _ _ _ _ (5, [some (.ref 46), x], [.int (bI ((σ 35) < 0 ∧ (σ 39) = 3 ∧ (σ 40) = 43))]) (ae_en σ α z t0 ts)
    refine aw_top (x2 := 0) ((is_s43 a7t a5).trans (bI_0 (fun q => e (Or.inl q))).symm) ?_
    refine aw_go 1 rfl ⟨trivial, trivial⟩ ?_
    refine aw_br (c := ¬ (0 : Int32) = 0) (fun h5 => ?_) (fun h5 => ?_)
    · skip
      have h5 := cI_eqF (a := 0) (b := 0) rfl rfl (by omega) (by omega) h5
      show aw_W _ _ _ _ (10, [some (.ref 46), x], []) (ae_en σ α z t0 ts)
      exact absurd h5 (by decide)
    · skip
      have h5 := Classical.not_not.mp h5
      have h5 := cI_eqT (a := 0) (b := 0) rfl rfl (by omega) (by omega) h5
      show aw_W _ _ _ _ (6, [some (.ref 46), x], []) (ae_en σ α z t0 ts)
      refine aw_go 2 rfl ⟨trivial, trivial, trivial⟩ ?_
      refine aw_callE rfl rfl (ev_Model_isSign (b := 45)) ?_
      show aw_W _ _ _ _ (9, [some (.ref 46), x], [.int (bI ((σ 35) < 0 ∧ (σ 39) = 3 ∧ (σ 40) = 45))]) (ae_en σ α z t0 ts)
      refine aw_top (x2 := 0) ((is_s45 a7t a5).trans (bI_0 (fun q => e (Or.inr q))).symm) ?_
      refine aw_go 1 rfl ⟨trivial, trivial⟩ ?_
      refine aw_br (c := (0 : Int32) = 0) (fun h9 => ?_) (fun h9 => ?_)
      · skip
        have h9 := cI_eqT (a := 0) (b := 0) rfl rfl (by omega) (by omega) h9
        show aw_W _ _ _ _ (22, [some (.ref 46), x], []) (ae_en σ α z t0 ts)
        refine aw_ret rfl rfl trivial ?_
        exact mrQ_nil h0
      · skip
        have h9 := cI_eqF (a := 0) (b := 0) rfl rfl (by omega) (by omega) h9
        show aw_W _ _ _ _ (10, [some (.ref 46), x], []) (ae_en σ α z t0 ts)
        exact absurd h9 (by decide)
theorem mr_sum {s m : Nat} (ih : mrX P z t0 ts s m 7) (il : mrM P z t0 ts s m) : mrX P z t0 ts s (m + 1) 5 := by
  intro σ α o l R c D hpp hP hD
  obtain ⟨D, rfl⟩ : ∃ E, D = E + 4 := ⟨D - 4, by simp only [mrD] at hD; omega⟩
  have h0 := hP
  obtain ⟨a1, a2, a3, a4, a5, a6, a7, a8, a9, a10⟩ := hP
  have a7t := a7.2.2.1
  have a7p := a7.2.1
  rw [pp] at hpp
  refine aw_ev (cd := cd_Model_sum) rfl rfl rfl ?_
  rcases bP_some hpp with ⟨l1, s1, q1, hpp⟩ | ⟨l1, s1, q1, rfl⟩
  · have hp := (pp_pH _ _ _ _ _ _ _ q1).1
    have hp1 := hp.1
    have hg1 := hp.2.1 a9
    obtain ⟨R1, q2, hq⟩ := mrQ_sq2 (σ := σ) (α := α) (z := z) (t0 := t0) (ts := ts) (s := s) (o := o) (c := c) hp hpp
    show aw_W _ _ _ _ (0, [some (.ref 46), none], []) (ae_en σ α z t0 ts)
    refine aw_go 1 rfl ⟨trivial, trivial⟩ ?_
    refine aw_call rfl rfl (mrX_y ih q1 h0 (by simp only [mrD] at hD ⊢; omega)) ?_
    rintro _ _ ⟨fr_1, tt_1, so_1, iz_1, rfl, rfl, ht_1⟩
    show aw_W _ _ _ _ (2, [some (.ref 46), none], []) (ae_en (au σ [(34, nI (c + s1.length)), (35, (-1)), (36, nI o), (37, fr_1), (38, tt_1), (39, so_1), (40, iz_1)]) (au α [(40, putL (α 40) (1020 + c) (s1.map cA)), (41, putL (α 41) (1020 + c) (s1.map cW))]) z t0 ts)
    exact aw_mono (il _ _ o l1 R1 _ _ _ q2 ⟨a1, a2, a3, rfl, rfl, rfl, ht_1, by omega, hg1, a10⟩ (by simp only [mrD] at hD ⊢; omega)) (hq _ _ _ _ _ _ _)
  · have hp := (pp_pH _ _ _ _ _ _ _ q1).1
    have hp1 := hp.1
    show aw_W _ _ _ _ (0, [some (.ref 46), none], []) (ae_en σ α z t0 ts)
    refine aw_go 1 rfl ⟨trivial, trivial⟩ ?_
    refine aw_call rfl rfl (mrX_n ih q1 h0 (by simp only [mrD] at hD ⊢; omega)) ?_
    rintro _ _ ⟨k_1, op_1, fr_1, tt_1, so_1, iz_1, A_1, W_1, rfl, rfl, f1_1, f2_1, f3_1, f4_1⟩
    show aw_W _ _ _ _ (2, [some (.ref 46), none], []) (ae_en (au σ [(34, nI k_1), (35, nI (hdP l1)), (36, op_1), (37, fr_1), (38, tt_1), (39, so_1), (40, iz_1)]) (au α [(40, A_1), (41, W_1)]) z t0 ts)
    refine aw_go 2 rfl ⟨trivial, trivial, trivial⟩ ?_
    refine aw_callE rfl rfl (ev_Model_isSign (b := 43)) ?_
    show aw_W _ _ _ _ (5, [some (.ref 46), none], [.int (bI ((nI (hdP l1)) < 0 ∧ so_1 = 3 ∧ iz_1 = 43))]) (ae_en (au σ [(34, nI k_1), (35, nI (hdP l1)), (36, op_1), (37, fr_1), (38, tt_1), (39, so_1), (40, iz_1)]) (au α [(40, A_1), (41, W_1)]) z t0 ts)
    refine aw_top (x2 := 0) (is_no (p := hdP l1) (by omega) rfl) ?_
    refine aw_go 1 rfl ⟨trivial, trivial⟩ ?_
    refine aw_br (c := ¬ (0 : Int32) = 0) (fun h5 => ?_) (fun h5 => ?_)
    · skip
      have h5 := cI_eqF (a := 0) (b := 0) rfl rfl (by omega) (by omega) h5
      show aw_W _ _ _ _ (10, [some (.ref 46), none], []) (ae_en (au σ [(34, nI k_1), (35, nI (hdP l1)), (36, op_1), (37, fr_1), (38, tt_1), (39, so_1), (40, iz_1)]) (au α [(40, A_1), (41, W_1)]) z t0 ts)
      exact absurd h5 (by decide)
    · skip
      have h5 := Classical.not_not.mp h5
      have h5 := cI_eqT (a := 0) (b := 0) rfl rfl (by omega) (by omega) h5
      show aw_W _ _ _ _ (6, [some (.ref 46), none], []) (ae_en (au σ [(34, nI k_1), (35, nI (hdP l1)), (36, op_1), (37, fr_1), (38, tt_1), (39, so_1), (40, iz_1)]) (au α [(40, A_1), (41, W_1)]) z t0 ts)
      refine aw_go 2 rfl ⟨trivial, trivial, trivial⟩ ?_
      refine aw_callE rfl rfl (ev_Model_isSign (b := 45)) ?_
      show aw_W _ _ _ _ (9, [some (.ref 46), none], [.int (bI ((nI (hdP l1)) < 0 ∧ so_1 = 3 ∧ iz_1 = 45))]) (ae_en (au σ [(34, nI k_1), (35, nI (hdP l1)), (36, op_1), (37, fr_1), (38, tt_1), (39, so_1), (40, iz_1)]) (au α [(40, A_1), (41, W_1)]) z t0 ts)
      refine aw_top (x2 := 0) (is_no (p := hdP l1) (by omega) rfl) ?_
      refine aw_go 1 rfl ⟨trivial, trivial⟩ ?_
      refine aw_br (c := (0 : Int32) = 0) (fun h9 => ?_) (fun h9 => ?_)
      · skip
        have h9 := cI_eqT (a := 0) (b := 0) rfl rfl (by omega) (by omega) h9
        show aw_W _ _ _ _ (22, [some (.ref 46), none], []) (ae_en (au σ [(34, nI k_1), (35, nI (hdP l1)), (36, op_1), (37, fr_1), (38, tt_1), (39, so_1), (40, iz_1)]) (au α [(40, A_1), (41, W_1)]) z t0 ts)
        refine aw_ret rfl rfl trivial ?_
        exact mrQ_bad f1_1 (by omega) (by omega) f4_1
      · skip
        have h9 := cI_eqF (a := 0) (b := 0) rfl rfl (by omega) (by omega) h9
        show aw_W _ _ _ _ (10, [some (.ref 46), none], []) (ae_en (au σ [(34, nI k_1), (35, nI (hdP l1)), (36, op_1), (37, fr_1), (38, tt_1), (39, so_1), (40, iz_1)]) (au α [(40, A_1), (41, W_1)]) z t0 ts)
        exact absurd h9 (by decide)
end L63
