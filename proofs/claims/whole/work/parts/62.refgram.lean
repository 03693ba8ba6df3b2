/-! the reference's grammar: steps in common -/
section L62
variable {P : ae_P} {σ : Nat → Int32} {α : Nat → Nat → Int32} {z : Int64} {t0 : ae_T} {ts : List ae_T}

theorem mr_next {s o c : Nat} {l : ae_TL} {zd : Nat} (h : mrP s o c l σ α) (hn : ¬ hdT l = -17) : aw_X P (zd + 3) 120 [.ref 46] (ae_en σ α z t0 ts) (fun r H => ∃ (fr tt so iz : Int32), r = none ∧ H = ae_en (au σ [(37, fr), (38, tt), (39, so), (40, iz)]) α z t0 ts ∧ mrT s (α 39) l.tail fr tt so iz) := by
  obtain ⟨h1, h2, h3, -, -, -, ⟨-, -, -, e, he, hes, hr⟩, -⟩ := h
  obtain ⟨m, hm1, hm2⟩ := hr hn
  refine ax_mono (ev_Model_next h1 h2 h3 he hes hm2 hm1.symm) ?_
  rintro r H ⟨so, iz, e2, rfl, rfl, k1, k2, k3⟩
  exact ⟨_, _, _, _, rfl, rfl, rfl, by rw [hm1]; exact lx_hdP _ _ _ _ hes, k1, e2, rfl, k2, k3⟩
theorem mr_opens_yes {s o c : Nat} {l : ae_TL} {zd : Nat} (h : mrP s o c l σ α) (hn : ¬ hdT l = -17) (ho : o < 5) : aw_X P (zd + 4) 125 [.ref 46] (ae_en σ α z t0 ts) (fun r H => ∃ (fr tt so iz : Int32), r = some (.int 1) ∧ H = ae_en (au σ [(36, nI (o + 1)), (37, fr), (38, tt), (39, so), (40, iz)]) α z t0 ts ∧ mrT s (α 39) l.tail fr tt so iz) := by
  obtain ⟨h1, h2, h3, -, -, h4, ⟨-, -, -, e, he, hes, hr⟩, -⟩ := h
  obtain ⟨m, hm1, hm2⟩ := hr hn
  refine ax_mono (ev_opens_yes h1 h2 h3 he hes hm2 hm1.symm h4 ho) ?_
  rintro r H ⟨so, iz, e2, rfl, rfl, k1, k2, k3⟩
  exact ⟨_, _, _, _, rfl, rfl, rfl, by rw [hm1]; exact lx_hdP _ _ _ _ hes, k1, e2, rfl, k2, k3⟩
/-- nothing read: all stands -/
theorem mrQ_nil {s o c : Nat} {l : ae_TL} (h : mrP s o c l σ α) : mrQ σ α z t0 ts s o c l (true, l, []) none (ae_en σ α z t0 ts) := by
  obtain ⟨-, -, -, h4, h5, h6, h7, -⟩ := h
  exact ⟨_, _, _, _, _, _, _, _, _, rfl, rfl, And.intro (fun _ => ⟨h4, h5, h6, h7, rfl, rfl⟩) (fun q => Bool.noConfusion q)⟩
/-- a fault where it stands -/
theorem mrQ_no {s o c : Nat} {l : ae_TL} {x : List Int32} (h : mrP s o c l σ α) : mrQ σ α z t0 ts s o c l (false, l, x) none (ae_en (au σ [(35, σ 37)]) α z t0 ts) := by
  obtain ⟨-, -, -, h4, h5, h6, h7, -⟩ := h
  exact ⟨_, _, _, _, _, _, _, _, _, rfl, rfl, And.intro (fun q => Bool.noConfusion q) (fun _ => ⟨h7.1, h7.2.1, ⟨c, h4, Nat.le_refl _, Nat.le_refl _⟩, fun j _ => ⟨rfl, rfl⟩⟩)⟩
/-- from the token passed on -/
theorem mrP_tail {s o o2 c : Nat} {l : ae_TL} {fr tt so iz op : Int32} (h : mrP s o c l σ α) (hn : ¬ hdT l = -17) (ht : mrT s (α 39) l.tail fr tt so iz) (ho : op = nI o2) (ho5 : o2 ≤ 5) : mrP s o2 c l.tail (au σ [(36, op), (37, fr), (38, tt), (39, so), (40, iz)]) α := by
  obtain ⟨h1, h2, h3, h4, h5, -, -, h8, h9, -⟩ := h
  have hp := pH_tail hn
  have hp1 := hp.1
  exact ⟨h1, h2, h3, h4, h5, ho, ht, by omega, hp.2.1 h9, ho5⟩
end L62
