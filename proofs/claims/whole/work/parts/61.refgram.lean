/-! the reference's grammar: what a kind's method asks and leaves -/
theorem lx_hdP (f : Nat → Int32) (s : Nat) : ∀ (m p : Nat), p ≤ s → hdP (lx f s m p) ≤ s
  | 0, p, _ => Nat.le_refl s
  | m + 1, p, h => by
    rw [lx]
    split
    · split
      · exact lx_hdP f s m (p + 1) (by omega)
      · split
        · exact h
        · split <;> exact h
    · exact Nat.le_refl s
/-- the token that the reference stands at, and what is left behind it -/
def mrT (s : Nat) (f : Nat → Int32) (l : ae_TL) (fr tt so iz : Int32) : Prop := fr = nI (hdP l) ∧ hdP l ≤ s ∧ tokR so iz (hdT l) ∧ ∃ e : Nat, tt = nI e ∧ e ≤ s ∧ (¬ hdT l = -17 → ∃ m : Nat, l.tail = lx f s m e ∧ s - e ≤ m)
def mrP (s o c : Nat) (l : ae_TL) (σ : Nat → Int32) (α : Nat → Nat → Int32) : Prop := mTb (α 45) (α 46) ∧ σ 31 = nI s ∧ s ≤ 160 ∧ σ 34 = nI c ∧ σ 35 = -1 ∧ σ 36 = nI o ∧ mrT s (α 39) l (σ 37) (σ 38) (σ 39) (σ 40) ∧ c + l.length ≤ 161 ∧ gL l ∧ o ≤ 5
/-- what a kind's method leaves -/
def mrF (s o c : Nat) (l : ae_TL) (f A0 W0 : Nat → Int32) (R : ae_PR) (la ft op fr tt so iz : Int32) (A W : Nat → Int32) : Prop :=
  (R.1 = true → la = nI (c + R.2.2.length) ∧ ft = -1 ∧ op = nI o ∧ mrT s f R.2.1 fr tt so iz ∧ A = putL A0 (1020 + c) (R.2.2.map cA) ∧ W = putL W0 (1020 + c) (R.2.2.map cW)) ∧
  (R.1 = false → ft = nI (hdP R.2.1) ∧ hdP R.2.1 ≤ s ∧ (∃ k : Nat, la = nI k ∧ c ≤ k ∧ k + R.2.1.length ≤ c + l.length) ∧ ∀ j, j < 1020 → A j = A0 j ∧ W j = W0 j)
def mrQ (σ : Nat → Int32) (α : Nat → Nat → Int32) (z : Int64) (t0 : ae_T) (ts : List ae_T) (s o c : Nat) (l : ae_TL) (R : ae_PR) : Option Value → ae_H → Prop := fun r H => ∃ (la ft op fr tt so iz : Int32) (A W : Nat → Int32), r = none ∧ H = ae_en (au σ [(34, la), (35, ft), (36, op), (37, fr), (38, tt), (39, so), (40, iz)]) (au α [(40, A), (41, W)]) z t0 ts ∧ mrF s o c l (α 39) (α 40) (α 41) R la ft op fr tt so iz A W
def mrK : Nat → Nat
  | 0 => 126
  | 2 => 127
  | 4 => 128
  | 5 => 129
  | 7 => 130
  | _ => 131
def mrD : Nat → Nat
  | 0 => 11
  | 2 => 10
  | 4 => 9
  | 5 => 8
  | 7 => 7
  | _ => 6
def mrX (P : ae_P) (z : Int64) (t0 : ae_T) (ts : List ae_T) (s m kd : Nat) : Prop := ∀ (σ : Nat → Int32) (α : Nat → Nat → Int32) (o : Nat) (l : ae_TL) (R : ae_PR) (c D : Nat), pp m kd o l = some R → mrP s o c l σ α → 7 * (5 - o) + mrD kd ≤ D → aw_X P D (mrK kd) [.ref 46] (ae_en σ α z t0 ts) (mrQ σ α z t0 ts s o c l R)
theorem putL_map1 (g : Int32 → Int32) (S : Nat → Int32) (c : Nat) (s1 s2 : List Int32) : putL S c ((s1 ++ s2).map g) = putL (putL S c (s1.map g)) (c + s1.length) (s2.map g) := by
  rw [List.map_append, putL_app, List.length_map]
theorem putL_one (S : Nat → Int32) (c : Nat) (x : Int32) : putL S c [x] = upd S c x := rfl
theorem mrQ_sq {σ : Nat → Int32} {α : Nat → Nat → Int32} {z : Int64} {t0 : ae_T} {ts : List ae_T} {s o c : Nat} {l l1 : ae_TL} {la ft op fr tt so iz : Int32} {x : Option ae_PR} {R : ae_PR} {s1 : List Int32} (hp : pH l l1 s1.length) (h : bP x (fun l2 s2 => some (true, l2, s1 ++ s2)) = some R) : ∃ R1, x = some R1 ∧ ∀ r H, mrQ (au σ [(34, la), (35, ft), (36, op), (37, fr), (38, tt), (39, so), (40, iz)]) (au α [(40, putL (α 40) (1020 + c) (s1.map cA)), (41, putL (α 41) (1020 + c) (s1.map cW))]) z t0 ts s o (c + s1.length) l1 R1 r H → mrQ σ α z t0 ts s o c l R r H := by
  have hp1 := hp.1
  rcases bP_some h with ⟨l2, s2, h2, h⟩ | ⟨l2, s2, h2, h⟩
  · cases h
    refine ⟨_, h2, fun r H hq => ?_⟩
    obtain ⟨la', ft', op', fr', tt', so', iz', A', W', e1, e2, e3, -⟩ := hq
    refine ⟨la', ft', op', fr', tt', so', iz', A', W', e1, e2, And.intro (fun _ => ?_) (fun q => Bool.noConfusion q)⟩
    obtain ⟨f1, f2, f3, f4, f5, f6⟩ := e3 rfl
    refine ⟨?_, f2, f3, f4, ?_, ?_⟩
    · rw [f1, List.length_append]
      congr 1
      show c + s1.length + s2.length = _
      omega
    · rw [f5, putL_map1, Nat.add_assoc]
      rfl
    · rw [f6, putL_map1, Nat.add_assoc]
      rfl
  · subst h
    refine ⟨_, h2, fun r H hq => ?_⟩
    obtain ⟨la', ft', op', fr', tt', so', iz', A', W', e1, e2, -, e3⟩ := hq
    refine ⟨la', ft', op', fr', tt', so', iz', A', W', e1, e2, And.intro (fun q => Bool.noConfusion q) (fun _ => ?_)⟩
    obtain ⟨f1, f2, ⟨k, f3, f4, f5⟩, f6⟩ := e3 rfl
    refine ⟨f1, f2, ⟨k, f3, by omega, by have : k + l2.length ≤ c + s1.length + l1.length := f5; show k + l2.length ≤ _; omega⟩, fun j hj => ?_⟩
    obtain ⟨g1, g2⟩ := f6 j hj
    exact ⟨g1.trans (putL_lt _ _ _ _ (by omega)), g2.trans (putL_lt _ _ _ _ (by omega))⟩
section L61
variable {P : ae_P} {σ : Nat → Int32} {α : Nat → Nat → Int32} {z : Int64} {t0 : ae_T} {ts : List ae_T}

theorem is_no {so iz b c ft : Int32} {p : Nat} (hp : p < 2 ^ 31) (h : ft = nI p) : bI (ft < 0 ∧ so = c ∧ iz = b) = 0 := (bI_0 (fun q => nI_nneg hp (h ▸ q.1))).symm
theorem is_s40 {so iz t ft : Int32} (h : tokR so iz t) (hf : ft = -1) : bI (ft < 0 ∧ so = 3 ∧ iz = 40) = bI (t = -9) := bI_iff ⟨fun q => (tk_s40 h).mp q.2, fun q => ⟨by rw [hf]; decide, (tk_s40 h).mpr q⟩⟩
theorem is_s41 {so iz t ft : Int32} (h : tokR so iz t) (hf : ft = -1) : bI (ft < 0 ∧ so = 3 ∧ iz = 41) = bI (t = -10) := bI_iff ⟨fun q => (tk_s41 h).mp q.2, fun q => ⟨by rw [hf]; decide, (tk_s41 h).mpr q⟩⟩
theorem is_s42 {so iz t ft : Int32} (h : tokR so iz t) (hf : ft = -1) : bI (ft < 0 ∧ so = 3 ∧ iz = 42) = bI (t = -8) := bI_iff ⟨fun q => (tk_s42 h).mp q.2, fun q => ⟨by rw [hf]; decide, (tk_s42 h).mpr q⟩⟩
theorem is_s43 {so iz t ft : Int32} (h : tokR so iz t) (hf : ft = -1) : bI (ft < 0 ∧ so = 3 ∧ iz = 43) = bI (t = -6) := bI_iff ⟨fun q => (tk_s43 h).mp q.2, fun q => ⟨by rw [hf]; decide, (tk_s43 h).mpr q⟩⟩
theorem is_s45 {so iz t ft : Int32} (h : tokR so iz t) (hf : ft = -1) : bI (ft < 0 ∧ so = 3 ∧ iz = 45) = bI (t = -7) := bI_iff ⟨fun q => (tk_s45 h).mp q.2, fun q => ⟨by rw [hf]; decide, (tk_s45 h).mpr q⟩⟩
theorem is_s59 {so iz t ft : Int32} (h : tokR so iz t) (hf : ft = -1) : bI (ft < 0 ∧ so = 3 ∧ iz = 59) = bI (t = -11) := bI_iff ⟨fun q => (tk_s59 h).mp q.2, fun q => ⟨by rw [hf]; decide, (tk_s59 h).mpr q⟩⟩
theorem is_s60 {so iz t ft : Int32} (h : tokR so iz t) (hf : ft = -1) : bI (ft < 0 ∧ so = 3 ∧ iz = 60) = bI (t = -4) := bI_iff ⟨fun q => (tk_s60 h).mp q.2, fun q => ⟨by rw [hf]; decide, (tk_s60 h).mpr q⟩⟩
theorem is_s61 {so iz t ft : Int32} (h : tokR so iz t) (hf : ft = -1) : bI (ft < 0 ∧ so = 3 ∧ iz = 61) = bI (t = -5) := bI_iff ⟨fun q => (tk_s61 h).mp q.2, fun q => ⟨by rw [hf]; decide, (tk_s61 h).mpr q⟩⟩
theorem is_k10 {so iz t ft : Int32} (h : tokR so iz t) (hf : ft = -1) : bI (ft < 0 ∧ so = 1 ∧ iz = 10) = bI (t = -13) := bI_iff ⟨fun q => (tk_k10 h).mp q.2, fun q => ⟨by rw [hf]; decide, (tk_k10 h).mpr q⟩⟩
theorem is_k11 {so iz t ft : Int32} (h : tokR so iz t) (hf : ft = -1) : bI (ft < 0 ∧ so = 1 ∧ iz = 11) = bI (t = -14) := bI_iff ⟨fun q => (tk_k11 h).mp q.2, fun q => ⟨by rw [hf]; decide, (tk_k11 h).mpr q⟩⟩
theorem is_k12 {so iz t ft : Int32} (h : tokR so iz t) (hf : ft = -1) : bI (ft < 0 ∧ so = 1 ∧ iz = 12) = bI (t = -15) := bI_iff ⟨fun q => (tk_k12 h).mp q.2, fun q => ⟨by rw [hf]; decide, (tk_k12 h).mpr q⟩⟩
theorem is_k13 {so iz t ft : Int32} (h : tokR so iz t) (hf : ft = -1) : bI (ft < 0 ∧ so = 1 ∧ iz = 13) = bI (t = -1) := bI_iff ⟨fun q => (tk_k13 h).mp q.2, fun q => ⟨by rw [hf]; decide, (tk_k13 h).mpr q⟩⟩
theorem is_k14 {so iz t ft : Int32} (h : tokR so iz t) (hf : ft = -1) : bI (ft < 0 ∧ so = 1 ∧ iz = 14) = bI (t = -2) := bI_iff ⟨fun q => (tk_k14 h).mp q.2, fun q => ⟨by rw [hf]; decide, (tk_k14 h).mpr q⟩⟩
theorem is_k15 {so iz t ft : Int32} (h : tokR so iz t) (hf : ft = -1) : bI (ft < 0 ∧ so = 1 ∧ iz = 15) = bI (t = -3) := bI_iff ⟨fun q => (tk_k15 h).mp q.2, fun q => ⟨by rw [hf]; decide, (tk_k15 h).mpr q⟩⟩
end L61
