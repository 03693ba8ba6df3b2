/-! days of a boat: the class looks ahead -/
theorem fL_mono {B : ae_B} {k m N : Nat} {W : Nat → Nat → Int32} {v t f a b c : Nat → Int32} (h : fL B k N W v t f a b c) (hm : m ≤ k) : fL B m N W v t f a b c := fun g hg => h g (by omega)
theorem fL_upd {B : ae_B} {k N g : Nat} {W : Nat → Nat → Int32} {v t f a b c : Nat → Int32} {x : Int32} (h : fL B k N W v t f a b c) : fL B k N W v (upd t g x) f (upd a g x) (upd b g (nI (gGo B N W g (v g) x (f g)))) (upd c g (gWi B N W g (v g) x (f g))) := by
  intro j hj
  by_cases e : j = g
  · subst e
    rw [upd_eq, upd_eq, upd_eq, upd_eq]
    exact ⟨rfl, rfl, rfl⟩
  · rw [upd_ne e, upd_ne e, upd_ne e, upd_ne e]
    exact h j hj
theorem fL_next {B : ae_B} {g N : Nat} {W : Nat → Nat → Int32} {v t f a b c : Nat → Int32} (h : fL B g N W v t f a b c) : fL B (g + 1) N W v t f (upd a g (t g)) (upd b g (nI (gGo B N W g (v g) (t g) (f g)))) (upd c g (gWi B N W g (v g) (t g) (f g))) := by
  intro j hj
  by_cases e : j = g
  · subst e
    rw [upd_eq, upd_eq, upd_eq]
    exact ⟨rfl, rfl, rfl⟩
  · rw [upd_ne e, upd_ne e, upd_ne e]
    exact h j (by omega)
theorem gF_no {A : Nat → Bool} {d : Nat} (h : gF A d = 0) (q : ¬ A (d + 1) = true) : gF A (d + 1) = 0 := by rw [gF, if_pos h, if_neg q]
theorem gF_yes {A : Nat → Bool} {d : Nat} (h : gF A d = 0) (q : A (d + 1) = true) : gF A (d + 1) = d + 1 := by rw [gF, if_pos h, if_pos q]
theorem gF_on {A : Nat → Bool} {d : Nat} (h : ¬ gF A d = 0) : ∀ {m : Nat}, d ≤ m → gF A m = gF A d
  | 0, hm => by rw [show d = 0 by omega]
  | m + 1, hm => by
    rcases Nat.lt_or_ge d (m + 1) with q | q
    · have e := gF_on h (m := m) (by omega)
      rw [gF, if_neg (by rw [e]; exact h), e]
    · rw [show d = m + 1 by omega]
section L27
variable {P : ae_P} {σ : Nat → Int32} {α : Nat → Nat → Int32} {z : Int64} {t0 : ae_T} {ts : List ae_T}

theorem lp_stuff {zd : Nat} {n N : Nat} {B : ae_B} {W : Nat → Nat → Int32} {g : Nat} {v : Int32} {l5 : Option Value} (hC : cOk B n (σ 1) (σ 3) (σ 5) (σ 15) (α 0) (α 1) (α 2) t0 ts) (hW : fW n N W (α 22)) (hN : N ≤ 60) (hg : g + 1 < n) (hs : (σ 17) = nI N) (hn : (σ 1) = nI n) (hn10 : n ≤ 10) (h20 : ¬ (α 7) g = 0) (k : Nat) (hk : k ≤ N) (hz : gF (gAt B W g ((α 5) g) v) k = 0) : aw_W P (zd + 4) cd_Forecast_stuff (fun r H => r = none ∧ H = (ae_en σ (au α [(24, upd (α 24) g v), (25, upd (α 25) g (nI (gGo B N W g ((α 5) g) v ((α 7) g)))), (26, upd (α 26) g (gWi B N W g ((α 5) g) v ((α 7) g)))]) z t0 ts)) (29, [some (.ref 28), some (.int (nI g)), some (.int v), some (.int (gBg B g)), some (.int (nI (k + 1))), l5], []) (ae_en σ (au α [(24, upd (α 24) g v), (25, upd (α 25) g 0), (26, upd (α 26) g 0)]) z t0 ts) := by
  have e1 : upd (α 25) g 0 g = nI 0 := upd_eq _ _ _
  refine aw_go 4 rfl ⟨trivial, trivial, trivial, trivial, trivial⟩ ?_
  show aw_W _ _ _ _ (if (σ 17) < (nI (k + 1)) then 57 else 33, [some (.ref 28), some (.int (nI g)), some (.int v), some (.int (gBg B g)), some (.int (nI (k + 1))), l5], []) (ae_en σ (au α [(24, upd (α 24) g v), (25, upd (α 25) g 0), (26, upd (α 26) g 0)]) z t0 ts)
  refine aw_br (c := (σ 17) < (nI (k + 1))) (fun h32 => ?_) (fun h32 => ?_)
  · skip
    have h32 := cI_ltT (a := N) (b := k + 1) hs rfl (by omega) (by omega) h32
    show aw_W _ _ _ _ (57, [some (.ref 28), some (.int (nI g)), some (.int v), some (.int (gBg B g)), some (.int (nI (k + 1))), l5], []) (ae_en σ (au α [(24, upd (α 24) g v), (25, upd (α 25) g 0), (26, upd (α 26) g 0)]) z t0 ts)
    have e8 : k = N := by omega
    subst e8
    refine aw_ret rfl rfl trivial ?_
    refine ⟨rfl, ?_⟩
    rw [show gGo B k W g ((α 5) g) v ((α 7) g) = 0 from (if_neg h20).trans hz, show gWi B k W g ((α 5) g) v ((α 7) g) = 0 from if_pos ((if_neg h20).trans hz)]
    rfl
  · skip
    have h32 := cI_ltF (a := N) (b := k + 1) hs rfl (by omega) (by omega) h32
    show aw_W _ _ _ _ (33, [some (.ref 28), some (.int (nI g)), some (.int v), some (.int (gBg B g)), some (.int (nI (k + 1))), l5], []) (ae_en σ (au α [(24, upd (α 24) g v), (25, upd (α 25) g 0), (26, upd (α 26) g 0)]) z t0 ts)
    refine aw_go 3 rfl ⟨trivial, trivial, trivial, trivial⟩ ?_
    refine aw_callE rfl rfl (ev_Forecast_left (d := (k + 1)) (g := g) hC hW hN (by omega) hg e1 (Nat.zero_le _)) ?_
    show aw_W _ _ _ _ (37, [some (.ref 28), some (.int (nI g)), some (.int v), some (.int (gBg B g)), some (.int (nI (k + 1))), l5], [.int (gLf B (W (k + 1)) g ((α 5) g + (if 0 < 0 ∧ 0 ≤ (k + 1) then (upd (α 26) g 0) g else 0)) ((upd (α 24) g v) g))]) (ae_en σ (au α [(24, upd (α 24) g v), (25, upd (α 25) g 0), (26, upd (α 26) g 0)]) z t0 ts)
    rw [show ((α 5) g + if 0 < 0 ∧ 0 ≤ k + 1 then upd (α 26) g 0 g else 0) = (α 5) g from by rw [if_neg (by omega), Int32.add_zero], upd_eq]
    refine aw_go 5 rfl ⟨trivial, trivial, trivial, trivial, trivial, trivial⟩ ?_
    show aw_W _ _ _ _ (if (- (gLf B (W (k + 1)) g ((α 5) g) v)) ≤ (gBg B g) then 55 else 42, [some (.ref 28), some (.int (nI g)), some (.int v), some (.int (gBg B g)), some (.int (nI (k + 1))), some (.int (- (gLf B (W (k + 1)) g ((α 5) g) v)))], []) (ae_en σ (au α [(24, upd (α 24) g v), (25, upd (α 25) g 0), (26, upd (α 26) g 0)]) z t0 ts)
    refine aw_br (c := (- (gLf B (W (k + 1)) g ((α 5) g) v)) ≤ (gBg B g)) (fun h41 => ?_) (fun h41 => ?_)
    · skip
      show aw_W _ _ _ _ (55, [some (.ref 28), some (.int (nI g)), some (.int v), some (.int (gBg B g)), some (.int (nI (k + 1))), some (.int (- (gLf B (W (k + 1)) g ((α 5) g) v)))], []) (ae_en σ (au α [(24, upd (α 24) g v), (25, upd (α 25) g 0), (26, upd (α 26) g 0)]) z t0 ts)
      have hz2 := gF_no hz (show ¬ gAt B W g ((α 5) g) v (k + 1) = true from fun q => absurd (of_decide_eq_true q) (Int32.not_lt.mpr h41))
      refine aw_go 2 rfl ⟨trivial, trivial, trivial⟩ ?_
      show aw_W _ _ _ _ (29, [some (.ref 28), some (.int (nI g)), some (.int v), some (.int (gBg B g)), some (.int ((nI (k + 1)) + 1)), some (.int (- (gLf B (W (k + 1)) g ((α 5) g) v)))], []) (ae_en σ (au α [(24, upd (α 24) g v), (25, upd (α 25) g 0), (26, upd (α 26) g 0)]) z t0 ts)
      rw [show (nI (k + 1)) + 1 = nI ((k + 1) + 1) from (cI_add (a := k + 1) (b := 1) rfl rfl)]
      exact lp_stuff hC hW hN hg hs hn hn10 h20 (k + 1) (by omega) hz2
    · skip
      show aw_W _ _ _ _ (42, [some (.ref 28), some (.int (nI g)), some (.int v), some (.int (gBg B g)), some (.int (nI (k + 1))), some (.int (- (gLf B (W (k + 1)) g ((α 5) g) v)))], []) (ae_en σ (au α [(24, upd (α 24) g v), (25, upd (α 25) g 0), (26, upd (α 26) g 0)]) z t0 ts)
      have hz2 := gF_yes hz (show gAt B W g ((α 5) g) v (k + 1) = true from decide_eq_true (Int32.not_le.mp h41))
      have hz3 := gF_on (m := N) (by rw [hz2]; omega) (by omega : k + 1 ≤ N)
      have hz4 : gGo B N W g ((α 5) g) v ((α 7) g) = k + 1 := by rw [gGo, if_neg h20, hz3, hz2]
      have hz5 : gWi B N W g ((α 5) g) v ((α 7) g) = (- gLf B (W (k + 1)) g ((α 5) g) v) / 4 := by rw [gWi, hz4, if_neg (by omega)]
      refine aw_go 12 rfl ⟨trivial, trivial, trivial, trivial, (cI_in (a := g) rfl (by omega) (by decide)), trivial, trivial, trivial, trivial, trivial, (by decide), (cI_in (a := g) rfl (by omega) (by decide)), trivial⟩ ?_
      show aw_W _ _ _ _ (54, [some (.ref 28), some (.int (nI g)), some (.int v), some (.int (gBg B g)), some (.int (nI (k + 1))), some (.int (- (gLf B (W (k + 1)) g ((α 5) g) v)))], []) (ae_en σ (au α [(24, upd (α 24) g v), (25, upd (upd (α 25) g 0) (nI g).toNatClampNeg (nI (k + 1))), (26, upd (upd (α 26) g 0) (nI g).toNatClampNeg ((- (gLf B (W (k + 1)) g ((α 5) g) v)) / 4))]) z t0 ts)
      rw [show (nI g).toNatClampNeg = g from cI_cl (a := g) rfl (by omega)]
      refine aw_ret rfl rfl trivial ?_
      refine ⟨rfl, ?_⟩
      rw [upd_2, upd_2, hz4, hz5]
termination_by N - k
decreasing_by all_goals omega
theorem ev_Forecast_stuff {n N : Nat} {B : ae_B} {W : Nat → Nat → Int32} {g : Nat} {v : Int32} {zd : Nat} (hC : cOk B n (σ 1) (σ 3) (σ 5) (σ 15) (α 0) (α 1) (α 2) t0 ts) (hW : fW n N W (α 22)) (hN : N ≤ 60) (hg : g + 1 < n) (hs : (σ 17) = nI N) : aw_X P (zd + 5) 47 [.ref 28, .int (nI g), .int v] (ae_en σ α z t0 ts) (fun r H => r = none ∧ H = (ae_en σ (au α [(24, upd (α 24) g v), (25, upd (α 25) g (nI (gGo B N W g ((α 5) g) v ((α 7) g)))), (26, upd (α 26) g (gWi B N W g ((α 5) g) v ((α 7) g)))]) z t0 ts)) := by
  obtain ⟨hn, hn10, hs3, hk0, hk1, hk2, hr⟩ := id hC
  refine aw_ev (cd := cd_Forecast_stuff) rfl rfl rfl ?_
  show aw_W _ _ _ _ (0, [some (.ref 28), some (.int (nI g)), some (.int v), none, none, none], []) (ae_en σ α z t0 ts)
  refine aw_go 21 rfl ⟨trivial, trivial, trivial, trivial, (cI_in (a := g) rfl (by omega) (by decide)), trivial, trivial, trivial, trivial, (cI_in (a := g) rfl (by omega) (by decide)), trivial, trivial, trivial, trivial, (cI_in (a := g) rfl (by omega) (by decide)), trivial, trivial, trivial, trivial, (cI_in (a := g) rfl (by omega) (by decide)), trivial, trivial⟩ ?_
  show aw_W _ _ _ _ (if ¬ (α 7 (nI g).toNatClampNeg) = 0 then 22 else 21, [some (.ref 28), some (.int (nI g)), some (.int v), none, none, none], []) (ae_en σ (au α [(24, upd (α 24) (nI g).toNatClampNeg v), (25, upd (α 25) (nI g).toNatClampNeg 0), (26, upd (α 26) (nI g).toNatClampNeg 0)]) z t0 ts)
  rw [show (nI g).toNatClampNeg = g from cI_cl (a := g) rfl (by omega)]
  refine aw_br (c := ¬ (α 7 g) = 0) (fun h20 => ?_) (fun h20 => ?_)
  · skip
    show aw_W _ _ _ _ (22, [some (.ref 28), some (.int (nI g)), some (.int v), none, none, none], []) (ae_en σ (au α [(24, upd (α 24) g v), (25, upd (α 25) g 0), (26, upd (α 26) g 0)]) z t0 ts)
    refine aw_go 3 rfl ⟨trivial, trivial, trivial, trivial⟩ ?_
    show aw_W _ _ _ _ (25, [some (.ref 28), some (.int (nI g)), some (.int v), none, none, none], [.int (nI g), .ref 1]) (ae_en σ (au α [(24, upd (α 24) g v), (25, upd (α 25) g 0), (26, upd (α 26) g 0)]) z t0 ts)
    refine aw_callE rfl rfl (ec_Boat_bearsAtGap (g := g) hC hg) ?_
    show aw_W _ _ _ _ (26, [some (.ref 28), some (.int (nI g)), some (.int v), none, none, none], [.int (gBg B g)]) (ae_en σ (au α [(24, upd (α 24) g v), (25, upd (α 25) g 0), (26, upd (α 26) g 0)]) z t0 ts)
    refine aw_go 3 rfl ⟨trivial, trivial, trivial, trivial⟩ ?_
    exact lp_stuff hC hW hN hg hs hn hn10 h20 0 (Nat.zero_le _) rfl
  · skip
    have h20 := Classical.not_not.mp h20
    show aw_W _ _ _ _ (21, [some (.ref 28), some (.int (nI g)), some (.int v), none, none, none], []) (ae_en σ (au α [(24, upd (α 24) g v), (25, upd (α 25) g 0), (26, upd (α 26) g 0)]) z t0 ts)
    refine aw_ret rfl rfl trivial ?_
    refine ⟨rfl, ?_⟩
    rw [show gGo B N W g ((α 5) g) v ((α 7) g) = 0 from if_pos h20, show gWi B N W g ((α 5) g) v ((α 7) g) = 0 from if_pos (if_pos h20)]
    rfl
theorem cp0 {n m k : Nat} (h : n ≤ m) (h2 : n ≤ k) (hn : n < 2 ^ 31) : ¬ (0 : Int32) < 0 ∧ ¬ (0 : Int32) < 0 ∧ ¬ nI n < 0 ∧ (0 : Int32).toNatClampNeg + (nI n).toNatClampNeg ≤ m ∧ (0 : Int32).toNatClampNeg + (nI n).toNatClampNeg ≤ k := by
  rw [nI_clamp hn, show (0 : Int32).toNatClampNeg = 0 from rfl]
  exact ⟨by decide, by decide, nI_pos hn, by omega, by omega⟩
theorem cpS {x : Int32} {s n m k : Nat} (e : x = nI s) (h : s + n ≤ m) (h2 : n ≤ k) (hm : m < 2 ^ 31) : ¬ x < 0 ∧ ¬ (0 : Int32) < 0 ∧ ¬ nI n < 0 ∧ x.toNatClampNeg + (nI n).toNatClampNeg ≤ m ∧ (0 : Int32).toNatClampNeg + (nI n).toNatClampNeg ≤ k := by
  subst e
  rw [nI_clamp (by omega), nI_clamp (by omega), show (0 : Int32).toNatClampNeg = 0 from rfl]
  exact ⟨nI_pos (by omega), by decide, nI_pos (by omega), by omega, by omega⟩
theorem lp_lookC {zd : Nat} {n N : Nat} {B : ae_B} {W : Nat → Nat → Int32} {w : Int32} {wt wr nv : Nat → Int32} {ra rb rc : Nat → Int32} {l3 l4 : Option Value} (hC : cOk B n (σ 1) (σ 3) (σ 5) (σ 15) (α 0) (α 1) (α 2) t0 ts) (hN : N ≤ 60) (hD : W = wD B n (α 3) (σ 2)) (hn : (σ 1) = nI n) (hn10 : n ≤ 10) (hW : fW n N W wr) (g : Nat) (hg : g ≤ n - 1) (hL : fL B g N W (α 5) (α 6) (α 7) ra rb rc) : aw_W P (zd + 5) cd_Forecast_look (fun r H => ∃ (w : Int32) (wt : Nat → Int32) (wr : Nat → Int32) (nv : Nat → Int32) (ra : Nat → Int32) (rb : Nat → Int32) (rc : Nat → Int32), r = none ∧ H = (ae_en (au σ [(16, w), (17, nI N)]) (au α [(21, wt), (22, wr), (23, nv), (24, ra), (25, rb), (26, rc)]) z t0 ts) ∧ fW n N W wr ∧ fL B (n - 1) N W (α 5) (α 6) (α 7) ra rb rc) (55, [some (.ref 28), some (.int (nI N)), some (.int (nI g)), l3, l4], []) (ae_en (au σ [(16, w), (17, nI N)]) (au α [(21, wt), (22, wr), (23, nv), (24, ra), (25, rb), (26, rc)]) z t0 ts) := by
  refine aw_go 3 rfl ⟨trivial, trivial, trivial, trivial⟩ ?_
  show aw_W _ _ _ _ (58, [some (.ref 28), some (.int (nI N)), some (.int (nI g)), l3, l4], [.ref 1, .int (nI g)]) (ae_en (au σ [(16, w), (17, nI N)]) (au α [(21, wt), (22, wr), (23, nv), (24, ra), (25, rb), (26, rc)]) z t0 ts)
  refine aw_callE rfl rfl (ec_Boat_gaps  hn hn10) ?_
  show aw_W _ _ _ _ (59, [some (.ref 28), some (.int (nI N)), some (.int (nI g)), l3, l4], [.int (nI (n - 1)), .int (nI g)]) (ae_en (au σ [(16, w), (17, nI N)]) (au α [(21, wt), (22, wr), (23, nv), (24, ra), (25, rb), (26, rc)]) z t0 ts)
  refine aw_go 1 rfl ⟨trivial, trivial⟩ ?_
  refine aw_br (c := (nI (n - 1)) ≤ (nI g)) (fun h59 => ?_) (fun h59 => ?_)
  · skip
    have h59 := cI_leT (a := n - 1) (b := g) rfl rfl (by omega) (by omega) h59
    show aw_W _ _ _ _ (70, [some (.ref 28), some (.int (nI N)), some (.int (nI g)), l3, l4], []) (ae_en (au σ [(16, w), (17, nI N)]) (au α [(21, wt), (22, wr), (23, nv), (24, ra), (25, rb), (26, rc)]) z t0 ts)
    have e8 : g = n - 1 := by omega
    subst e8
    refine aw_ret rfl rfl trivial ?_
    exact ⟨_, _, _, _, _, _, _, rfl, rfl, hW, hL⟩
  · skip
    have h59 := cI_leF (a := n - 1) (b := g) rfl rfl (by omega) (by omega) h59
    show aw_W _ _ _ _ (60, [some (.ref 28), some (.int (nI N)), some (.int (nI g)), l3, l4], []) (ae_en (au σ [(16, w), (17, nI N)]) (au α [(21, wt), (22, wr), (23, nv), (24, ra), (25, rb), (26, rc)]) z t0 ts)
    refine aw_go 7 rfl ⟨trivial, trivial, trivial, trivial, trivial, trivial, (cI_in (a := g) rfl (by omega) (by decide)), trivial⟩ ?_
    show aw_W _ _ _ _ (67, [some (.ref 28), some (.int (nI N)), some (.int (nI g)), l3, l4], [.int (α 6 (nI g).toNatClampNeg), .int (nI g), .ref 28]) (ae_en (au σ [(16, w), (17, nI N)]) (au α [(21, wt), (22, wr), (23, nv), (24, ra), (25, rb), (26, rc)]) z t0 ts)
    rw [show (nI g).toNatClampNeg = g from cI_cl (a := g) rfl (by omega)]
    refine aw_call rfl rfl (ev_Forecast_stuff (g := g) (v := (α 6 g)) hC hW hN (by omega) rfl) ?_
    rintro _ _ ⟨rfl, rfl⟩
    show aw_W _ _ _ _ (68, [some (.ref 28), some (.int (nI N)), some (.int (nI g)), l3, l4], []) (ae_en (au σ [(16, w), (17, nI N)]) (au α [(21, wt), (22, wr), (23, nv), (24, upd ra g (α 6 g)), (25, upd rb g (nI (gGo B N W g ((α 5) g) (α 6 g) ((α 7) g)))), (26, upd rc g (gWi B N W g ((α 5) g) (α 6 g) ((α 7) g)))]) z t0 ts)
    refine aw_go 2 rfl ⟨trivial, trivial, trivial⟩ ?_
    show aw_W _ _ _ _ (55, [some (.ref 28), some (.int (nI N)), some (.int ((nI g) + 1)), l3, l4], []) (ae_en (au σ [(16, w), (17, nI N)]) (au α [(21, wt), (22, wr), (23, nv), (24, upd ra g (α 6 g)), (25, upd rb g (nI (gGo B N W g ((α 5) g) (α 6 g) ((α 7) g)))), (26, upd rc g (gWi B N W g ((α 5) g) (α 6 g) ((α 7) g)))]) z t0 ts)
    rw [show (nI g) + 1 = nI (g + 1) from (cI_add (a := g) (b := 1) rfl rfl)]
    exact lp_lookC hC hN hD hn hn10 hW (g + 1) (by omega) (fL_next hL)
termination_by n - 1 - g
decreasing_by all_goals omega
theorem lp_lookB {zd : Nat} {n N : Nat} {B : ae_B} {W : Nat → Nat → Int32} {w : Int32} {wt wr nv : Nat → Int32} {l4 : Option Value} (hC : cOk B n (σ 1) (σ 3) (σ 5) (σ 15) (α 0) (α 1) (α 2) t0 ts) (hN : N ≤ 60) (hD : W = wD B n (α 3) (σ 2)) (hn : (σ 1) = nI n) (hn10 : n ≤ 10) (d : Nat) (hd : d < N) (i : Nat) (hi : i ≤ n) (hW : fW n d W wr) (hI : ∀ p, p < i → wr ((d + 1) * 10 + p) = W (d + 1) p) (kk : ∀ {w : Int32} {wt wr nv : Nat → Int32} {l3 l4 : Option Value}, fW n (d + 1) W wr → aw_W P (zd + 5) cd_Forecast_look (fun r H => ∃ (w : Int32) (wt : Nat → Int32) (wr : Nat → Int32) (nv : Nat → Int32) (ra : Nat → Int32) (rb : Nat → Int32) (rc : Nat → Int32), r = none ∧ H = (ae_en (au σ [(16, w), (17, nI N)]) (au α [(21, wt), (22, wr), (23, nv), (24, ra), (25, rb), (26, rc)]) z t0 ts) ∧ fW n N W wr ∧ fL B (n - 1) N W (α 5) (α 6) (α 7) ra rb rc) (16, [some (.ref 28), some (.int (nI N)), some (.int (nI (d + 1))), l3, l4], []) (ae_en (au σ [(16, w), (17, nI N)]) (au α [(21, wt), (22, wr), (23, nv)]) z t0 ts)) : aw_W P (zd + 5) cd_Forecast_look (fun r H => ∃ (w : Int32) (wt : Nat → Int32) (wr : Nat → Int32) (nv : Nat → Int32) (ra : Nat → Int32) (rb : Nat → Int32) (rc : Nat → Int32), r = none ∧ H = (ae_en (au σ [(16, w), (17, nI N)]) (au α [(21, wt), (22, wr), (23, nv), (24, ra), (25, rb), (26, rc)]) z t0 ts) ∧ fW n N W wr ∧ fL B (n - 1) N W (α 5) (α 6) (α 7) ra rb rc) (21, [some (.ref 28), some (.int (nI N)), some (.int (nI d)), some (.int (nI i)), l4], []) (ae_en (au σ [(16, w), (17, nI N)]) (au α [(21, wt), (22, wr), (23, nv)]) z t0 ts) := by
  refine aw_go 5 rfl ⟨trivial, trivial, trivial, trivial, trivial, trivial⟩ ?_
  show aw_W _ _ _ _ (if (σ 1) ≤ (nI i) then 51 else 26, [some (.ref 28), some (.int (nI N)), some (.int (nI d)), some (.int (nI i)), l4], []) (ae_en (au σ [(16, w), (17, nI N)]) (au α [(21, wt), (22, wr), (23, nv)]) z t0 ts)
  refine aw_br (c := (σ 1) ≤ (nI i)) (fun h25 => ?_) (fun h25 => ?_)
  · skip
    have h25 := cI_leT (a := n) (b := i) hn rfl (by omega) (by omega) h25
    show aw_W _ _ _ _ (51, [some (.ref 28), some (.int (nI N)), some (.int (nI d)), some (.int (nI i)), l4], []) (ae_en (au σ [(16, w), (17, nI N)]) (au α [(21, wt), (22, wr), (23, nv)]) z t0 ts)
    have e8 : i = n := by omega
    subst e8
    refine aw_go 2 rfl ⟨trivial, trivial, trivial⟩ ?_
    show aw_W _ _ _ _ (16, [some (.ref 28), some (.int (nI N)), some (.int ((nI d) + 1)), some (.int (nI i)), l4], []) (ae_en (au σ [(16, w), (17, nI N)]) (au α [(21, wt), (22, wr), (23, nv)]) z t0 ts)
    rw [show (nI d) + 1 = nI (d + 1) from (cI_add (a := d) (b := 1) rfl rfl)]
    exact kk (fun d2 p hd2 hp => by
      rcases Nat.lt_or_ge d d2 with q | q
      · obtain rfl : d2 = d + 1 := by omega
        exact hI p hp
      · exact hW d2 p q hp)
  · skip
    have h25 := cI_leF (a := n) (b := i) hn rfl (by omega) (by omega) h25
    show aw_W _ _ _ _ (26, [some (.ref 28), some (.int (nI N)), some (.int (nI d)), some (.int (nI i)), l4], []) (ae_en (au σ [(16, w), (17, nI N)]) (au α [(21, wt), (22, wr), (23, nv)]) z t0 ts)
    refine aw_go 3 rfl ⟨trivial, trivial, trivial, trivial⟩ ?_
    refine aw_callE rfl rfl (ev_Forecast_wetBehind (d := d) (p := i) hC hW (by omega) (Nat.le_refl _) (by omega)) ?_
    show aw_W _ _ _ _ (30, [some (.ref 28), some (.int (nI N)), some (.int (nI d)), some (.int (nI i)), l4], [.int (W d i)]) (ae_en (au σ [(16, w), (17, nI N)]) (au α [(21, wt), (22, wr), (23, nv)]) z t0 ts)
    refine aw_go 3 rfl ⟨trivial, trivial, trivial, trivial⟩ ?_
    refine aw_call rfl rfl (ev_Forecast_takesUp (d := d) (p := i) hC hW (by omega) (Nat.le_refl _) (by omega)) ?_
    rintro _ _ ⟨wt_33, nv_33, rfl, rfl⟩
    show aw_W _ _ _ _ (34, [some (.ref 28), some (.int (nI N)), some (.int (nI d)), some (.int (nI i)), l4], [.int (gTk B n (W d) (dyA (σ 2) d) i), .int (W d i)]) (ae_en (au σ [(16, nI 1), (17, nI N)]) (au α [(21, wt_33), (22, wr), (23, nv_33)]) z t0 ts)
    refine aw_go 17 rfl ⟨trivial, trivial, trivial, trivial, trivial, trivial, trivial, trivial, trivial, trivial, trivial, trivial, trivial, trivial, (cI_in (a := ((d + 1) * 10) + i) (cI_add (a := (d + 1) * 10) (b := i) (cI_mul (a := d + 1) (b := 10) (cI_add (a := d) (b := 1) rfl rfl) rfl) rfl) (by omega) (by decide)), trivial, trivial, trivial⟩ ?_
    show aw_W _ _ _ _ (21, [some (.ref 28), some (.int (nI N)), some (.int (nI d)), some (.int ((nI i) + 1)), some (.int ((W d i) + (gTk B n (W d) (dyA (σ 2) d) i)))], []) (ae_en (au σ [(16, nI 1), (17, nI N)]) (au α [(21, wt_33), (22, upd wr ((((nI d) + 1) * 10) + (nI i)).toNatClampNeg (fMn 100 ((W d i) + (gTk B n (W d) (dyA (σ 2) d) i)))), (23, nv_33)]) z t0 ts)
    rw [show ((((nI d) + 1) * 10) + (nI i)).toNatClampNeg = ((d + 1) * 10) + i from cI_cl (a := ((d + 1) * 10) + i) (cI_add (a := (d + 1) * 10) (b := i) (cI_mul (a := d + 1) (b := 10) (cI_add (a := d) (b := 1) rfl rfl) rfl) rfl) (by omega)]
    rw [show (nI i) + 1 = nI (i + 1) from (cI_add (a := i) (b := 1) rfl rfl)]
    exact lp_lookB hC hN hD hn hn10 d hd (i + 1) (by omega) (fun d2 p hd2 hp => by
      rw [upd_ne (by omega)]
      exact hW d2 p hd2 hp) (fun p hp => by
      by_cases e : p = i
      · subst e
        rw [upd_eq, hD]
        exact (if_pos (by omega)).symm
      · rw [upd_ne (by omega)]
        exact hI p (by omega)) kk
termination_by n - i
decreasing_by all_goals omega
theorem lp_lookA {zd : Nat} {n N : Nat} {B : ae_B} {W : Nat → Nat → Int32} {w : Int32} {wt wr nv : Nat → Int32} {l3 l4 : Option Value} (hC : cOk B n (σ 1) (σ 3) (σ 5) (σ 15) (α 0) (α 1) (α 2) t0 ts) (hN : N ≤ 60) (hD : W = wD B n (α 3) (σ 2)) (hn : (σ 1) = nI n) (hn10 : n ≤ 10) (d : Nat) (hd : d ≤ N) (hW : fW n d W wr) : aw_W P (zd + 5) cd_Forecast_look (fun r H => ∃ (w : Int32) (wt : Nat → Int32) (wr : Nat → Int32) (nv : Nat → Int32) (ra : Nat → Int32) (rb : Nat → Int32) (rc : Nat → Int32), r = none ∧ H = (ae_en (au σ [(16, w), (17, nI N)]) (au α [(21, wt), (22, wr), (23, nv), (24, ra), (25, rb), (26, rc)]) z t0 ts) ∧ fW n N W wr ∧ fL B (n - 1) N W (α 5) (α 6) (α 7) ra rb rc) (16, [some (.ref 28), some (.int (nI N)), some (.int (nI d)), l3, l4], []) (ae_en (au σ [(16, w), (17, nI N)]) (au α [(21, wt), (22, wr), (23, nv)]) z t0 ts) := by
  refine aw_go 3 rfl ⟨trivial, trivial, trivial, trivial⟩ ?_
  refine aw_br (c := (nI N) ≤ (nI d)) (fun h18 => ?_) (fun h18 => ?_)
  · skip
    have h18 := cI_leT (a := N) (b := d) rfl rfl (by omega) (by omega) h18
    show aw_W _ _ _ _ (53, [some (.ref 28), some (.int (nI N)), some (.int (nI d)), l3, l4], []) (ae_en (au σ [(16, w), (17, nI N)]) (au α [(21, wt), (22, wr), (23, nv)]) z t0 ts)
    have e8 : d = N := by omega
    subst e8
    refine aw_go 2 rfl ⟨trivial, trivial, trivial⟩ ?_
    exact aw_to (lp_lookC (ra := α 24) (rb := α 25) (rc := α 26) hC hN hD hn hn10 hW 0 (Nat.zero_le _) (fun g hg => absurd hg (Nat.not_lt_zero g))) rfl rfl
  · skip
    have h18 := cI_leF (a := N) (b := d) rfl rfl (by omega) (by omega) h18
    show aw_W _ _ _ _ (19, [some (.ref 28), some (.int (nI N)), some (.int (nI d)), l3, l4], []) (ae_en (au σ [(16, w), (17, nI N)]) (au α [(21, wt), (22, wr), (23, nv)]) z t0 ts)
    refine aw_go 2 rfl ⟨trivial, trivial, trivial⟩ ?_
    exact lp_lookB hC hN hD hn hn10 d (by omega) 0 (Nat.zero_le _) hW (fun p hp => absurd hp (Nat.not_lt_zero p)) (fun {w wt wr nv l3 l4} q => lp_lookA hC hN hD hn hn10 (d + 1) (by omega) q)
termination_by N - d
decreasing_by all_goals omega
theorem ev_Forecast_look {n N : Nat} {B : ae_B} {W : Nat → Nat → Int32} {zd : Nat} (hC : cOk B n (σ 1) (σ 3) (σ 5) (σ 15) (α 0) (α 1) (α 2) t0 ts) (hN : N ≤ 60) (hD : W = wD B n (α 3) (σ 2)) : aw_X P (zd + 6) 46 [.ref 28, .int (nI N)] (ae_en σ α z t0 ts) (fun r H => ∃ (w : Int32) (wt : Nat → Int32) (wr : Nat → Int32) (nv : Nat → Int32) (ra : Nat → Int32) (rb : Nat → Int32) (rc : Nat → Int32), r = none ∧ H = (ae_en (au σ [(16, w), (17, nI N)]) (au α [(21, wt), (22, wr), (23, nv), (24, ra), (25, rb), (26, rc)]) z t0 ts) ∧ fW n N W wr ∧ fL B (n - 1) N W (α 5) (α 6) (α 7) ra rb rc) := by
  obtain ⟨hn, hn10, hs3, hk0, hk1, hk2, hr⟩ := id hC
  refine aw_ev (cd := cd_Forecast_look) rfl rfl rfl ?_
  show aw_W _ _ _ _ (0, [some (.ref 28), some (.int (nI N)), none, none, none], []) (ae_en σ α z t0 ts)
  refine aw_go 16 rfl ⟨trivial, trivial, trivial, trivial, trivial, trivial, trivial, trivial, trivial, trivial, trivial, trivial, trivial, (by rw [hn]; exact cp0 (by omega) (by omega) (by omega)), trivial, trivial, trivial⟩ ?_
  show aw_W _ _ _ _ (16, [some (.ref 28), some (.int (nI N)), some (.int 0), none, none], []) (ae_en (au σ [(17, nI N)]) (au α [(22, va_cpy (α 3) (α 22) (0 : Int32).toNatClampNeg (0 : Int32).toNatClampNeg (σ 1).toNatClampNeg)]) z t0 ts)
  rw [show (0 : Int32).toNatClampNeg = 0 from cI_cl (a := 0) rfl (by omega)]
  rw [show (σ 1).toNatClampNeg = n from cI_cl (a := n) hn (by omega)]
  rw [fC_cpy]
  exact aw_to (lp_lookA (w := σ 16) (wt := α 21) (nv := α 23) (wr := fC n (fun j => α 3 (0 + j)) (α 22)) hC hN hD hn hn10 0 (Nat.zero_le _) (fun d p hd hp => by
    obtain rfl : d = 0 := by omega
    rw [fC_lt (by omega), hD]
    rw [show 0 + (0 * 10 + p) = p by omega]
    rfl)) rfl rfl
theorem lp_comeTrue {zd : Nat} {n N : Nat} {B : ae_B} {W : Nat → Nat → Int32} {t : Nat → Int32} (hC : cOk B n (σ 1) (σ 3) (σ 5) (σ 15) (α 0) (α 1) (α 2) t0 ts) (hW : fW n N W (α 22)) (hN : N ≤ 60) (hL : fL B (n - 1) N W (α 5) t (α 7) (α 24) (α 25) (α 26)) (hs : (σ 17) = nI N) (hn : (σ 1) = nI n) (hn10 : n ≤ 10) (k : Nat) (hk : k ≤ n - 1) : aw_W P (zd + 3) cd_Forecast_comeTrue (fun r H => r = none ∧ H = (ae_en (au σ [(2, fMn 9999 ((σ 2) + nI N))]) (au α [(3, fC n (W N) (α 3)), (5, fC (n - 1) (fun g => gWd B N W N g ((α 5) g) (t g) ((α 7) g)) (α 5)), (7, fC (n - 1) (fun g => if 0 < gGo B N W g ((α 5) g) (t g) ((α 7) g) ∧ gGo B N W g ((α 5) g) (t g) ((α 7) g) ≤ N then 0 else (α 7) g) (α 7))]) z t0 ts)) (16, [some (.ref 28), some (.int (nI k))], []) (ae_en σ (au α [(3, fC n (W N) (α 3)), (5, fC k (fun g => gWd B N W N g ((α 5) g) (t g) ((α 7) g)) (α 5)), (7, fC k (fun g => if 0 < gGo B N W g ((α 5) g) (t g) ((α 7) g) ∧ gGo B N W g ((α 5) g) (t g) ((α 7) g) ≤ N then 0 else (α 7) g) (α 7))]) z t0 ts) := by
  refine aw_go 3 rfl ⟨trivial, trivial, trivial, trivial⟩ ?_
  show aw_W _ _ _ _ (19, [some (.ref 28), some (.int (nI k))], [.ref 1, .int (nI k)]) (ae_en σ (au α [(3, fC n (W N) (α 3)), (5, fC k (fun g => gWd B N W N g ((α 5) g) (t g) ((α 7) g)) (α 5)), (7, fC k (fun g => if 0 < gGo B N W g ((α 5) g) (t g) ((α 7) g) ∧ gGo B N W g ((α 5) g) (t g) ((α 7) g) ≤ N then 0 else (α 7) g) (α 7))]) z t0 ts)
  refine aw_callE rfl rfl (ec_Boat_gaps  hn hn10) ?_
  show aw_W _ _ _ _ (20, [some (.ref 28), some (.int (nI k))], [.int (nI (n - 1)), .int (nI k)]) (ae_en σ (au α [(3, fC n (W N) (α 3)), (5, fC k (fun g => gWd B N W N g ((α 5) g) (t g) ((α 7) g)) (α 5)), (7, fC k (fun g => if 0 < gGo B N W g ((α 5) g) (t g) ((α 7) g) ∧ gGo B N W g ((α 5) g) (t g) ((α 7) g) ≤ N then 0 else (α 7) g) (α 7))]) z t0 ts)
  refine aw_go 1 rfl ⟨trivial, trivial⟩ ?_
  refine aw_br (c := (nI (n - 1)) ≤ (nI k)) (fun h20 => ?_) (fun h20 => ?_)
  · skip
    have h20 := cI_leT (a := n - 1) (b := k) rfl rfl (by omega) (by omega) h20
    show aw_W _ _ _ _ (51, [some (.ref 28), some (.int (nI k))], []) (ae_en σ (au α [(3, fC n (W N) (α 3)), (5, fC k (fun g => gWd B N W N g ((α 5) g) (t g) ((α 7) g)) (α 5)), (7, fC k (fun g => if 0 < gGo B N W g ((α 5) g) (t g) ((α 7) g) ∧ gGo B N W g ((α 5) g) (t g) ((α 7) g) ≤ N then 0 else (α 7) g) (α 7))]) z t0 ts)
    have e8 : k = n - 1 := by omega
    refine aw_go 11 rfl ⟨trivial, trivial, trivial, trivial, trivial, trivial, trivial, trivial, trivial, trivial, trivial, trivial⟩ ?_
    show aw_W _ _ _ _ (62, [some (.ref 28), some (.int (nI k))], []) (ae_en (au σ [(2, fMn 9999 ((σ 2) + (σ 17)))]) (au α [(3, fC n (W N) (α 3)), (5, fC k (fun g => gWd B N W N g ((α 5) g) (t g) ((α 7) g)) (α 5)), (7, fC k (fun g => if 0 < gGo B N W g ((α 5) g) (t g) ((α 7) g) ∧ gGo B N W g ((α 5) g) (t g) ((α 7) g) ≤ N then 0 else (α 7) g) (α 7))]) z t0 ts)
    refine aw_ret rfl rfl trivial ?_
    refine ⟨rfl, ?_⟩
    rw [e8, hs]
  · skip
    have h20 := cI_leF (a := n - 1) (b := k) rfl rfl (by omega) (by omega) h20
    show aw_W _ _ _ _ (21, [some (.ref 28), some (.int (nI k))], []) (ae_en σ (au α [(3, fC n (W N) (α 3)), (5, fC k (fun g => gWd B N W N g ((α 5) g) (t g) ((α 7) g)) (α 5)), (7, fC k (fun g => if 0 < gGo B N W g ((α 5) g) (t g) ((α 7) g) ∧ gGo B N W g ((α 5) g) (t g) ((α 7) g) ≤ N then 0 else (α 7) g) (α 7))]) z t0 ts)
    refine aw_go 8 rfl ⟨trivial, trivial, trivial, trivial, trivial, trivial, trivial, trivial, trivial⟩ ?_
    show aw_W _ _ _ _ (29, [some (.ref 28), some (.int (nI k))], [.int (nI k), .int (σ 17), .ref 28, .int (nI k), .ref 7]) (ae_en σ (au α [(3, fC n (W N) (α 3)), (5, fC k (fun g => gWd B N W N g ((α 5) g) (t g) ((α 7) g)) (α 5)), (7, fC k (fun g => if 0 < gGo B N W g ((α 5) g) (t g) ((α 7) g) ∧ gGo B N W g ((α 5) g) (t g) ((α 7) g) ≤ N then 0 else (α 7) g) (α 7))]) z t0 ts)
    rw [show σ 17 = nI N from hs]
    refine aw_callE rfl rfl (ev_Forecast_wide (d := N) (g := k) (hL k (by omega)).2.1 (by have := gGo_le B N W k ((α 5) k) (t k) ((α 7) k); omega) hN (by omega)) ?_
    show aw_W _ _ _ _ (30, [some (.ref 28), some (.int (nI k))], [.int ((fC k (fun g => gWd B N W N g ((α 5) g) (t g) ((α 7) g)) (α 5)) k + (if 0 < (gGo B N W k ((α 5) k) (t k) ((α 7) k)) ∧ (gGo B N W k ((α 5) k) (t k) ((α 7) k)) ≤ N then (α 26) k else 0)), .int (nI k), .ref 7]) (ae_en σ (au α [(3, fC n (W N) (α 3)), (5, fC k (fun g => gWd B N W N g ((α 5) g) (t g) ((α 7) g)) (α 5)), (7, fC k (fun g => if 0 < gGo B N W g ((α 5) g) (t g) ((α 7) g) ∧ gGo B N W g ((α 5) g) (t g) ((α 7) g) ≤ N then 0 else (α 7) g) (α 7))]) z t0 ts)
    refine aw_go 9 rfl ⟨(cI_in (a := k) rfl (by omega) (by decide)), trivial, trivial, trivial, trivial, trivial, trivial, trivial, trivial, trivial⟩ ?_
    show aw_W _ _ _ _ (39, [some (.ref 28), some (.int (nI k))], [.int (nI k), .int (σ 17), .ref 28, .int (nI k), .ref 9]) (ae_en σ (au α [(3, fC n (W N) (α 3)), (5, upd (fC k (fun g => gWd B N W N g ((α 5) g) (t g) ((α 7) g)) (α 5)) (nI k).toNatClampNeg ((fC k (fun g => gWd B N W N g ((α 5) g) (t g) ((α 7) g)) (α 5)) k + (if 0 < (gGo B N W k ((α 5) k) (t k) ((α 7) k)) ∧ (gGo B N W k ((α 5) k) (t k) ((α 7) k)) ≤ N then (α 26) k else 0))), (7, fC k (fun g => if 0 < gGo B N W g ((α 5) g) (t g) ((α 7) g) ∧ gGo B N W g ((α 5) g) (t g) ((α 7) g) ≤ N then 0 else (α 7) g) (α 7))]) z t0 ts)
    rw [show (nI k).toNatClampNeg = k from cI_cl (a := k) rfl (by omega)]
    rw [show σ 17 = nI N from hs]
    refine aw_callE rfl rfl (ev_Forecast_isGone (d := N) (g := k) (hL k (by omega)).2.1 (by have := gGo_le B N W k ((α 5) k) (t k) ((α 7) k); omega) hN (by omega)) ?_
    show aw_W _ _ _ _ (40, [some (.ref 28), some (.int (nI k))], [.int (bI (0 < (gGo B N W k ((α 5) k) (t k) ((α 7) k)) ∧ (gGo B N W k ((α 5) k) (t k) ((α 7) k)) ≤ N)), .int (nI k), .ref 9]) (ae_en σ (au α [(3, fC n (W N) (α 3)), (5, upd (fC k (fun g => gWd B N W N g ((α 5) g) (t g) ((α 7) g)) (α 5)) k ((fC k (fun g => gWd B N W N g ((α 5) g) (t g) ((α 7) g)) (α 5)) k + (if 0 < (gGo B N W k ((α 5) k) (t k) ((α 7) k)) ∧ (gGo B N W k ((α 5) k) (t k) ((α 7) k)) ≤ N then (α 26) k else 0))), (7, fC k (fun g => if 0 < gGo B N W g ((α 5) g) (t g) ((α 7) g) ∧ gGo B N W g ((α 5) g) (t g) ((α 7) g) ≤ N then 0 else (α 7) g) (α 7))]) z t0 ts)
    refine aw_go 1 rfl ⟨trivial, trivial⟩ ?_
    refine aw_br (c := (bI (0 < (gGo B N W k ((α 5) k) (t k) ((α 7) k)) ∧ (gGo B N W k ((α 5) k) (t k) ((α 7) k)) ≤ N)) = 0) (fun h40 => ?_) (fun h40 => ?_)
    · skip
      have h40 := bI_f h40
      show aw_W _ _ _ _ (43, [some (.ref 28), some (.int (nI k))], [.int (nI k), .ref 9]) (ae_en σ (au α [(3, fC n (W N) (α 3)), (5, upd (fC k (fun g => gWd B N W N g ((α 5) g) (t g) ((α 7) g)) (α 5)) k ((fC k (fun g => gWd B N W N g ((α 5) g) (t g) ((α 7) g)) (α 5)) k + (if 0 < (gGo B N W k ((α 5) k) (t k) ((α 7) k)) ∧ (gGo B N W k ((α 5) k) (t k) ((α 7) k)) ≤ N then (α 26) k else 0))), (7, fC k (fun g => if 0 < gGo B N W g ((α 5) g) (t g) ((α 7) g) ∧ gGo B N W g ((α 5) g) (t g) ((α 7) g) ≤ N then 0 else (α 7) g) (α 7))]) z t0 ts)
      refine aw_go 8 rfl ⟨trivial, trivial, trivial, trivial, (cI_in (a := k) rfl (by omega) (by decide)), (cI_in (a := k) rfl (by omega) (by decide)), trivial, trivial, trivial⟩ ?_
      show aw_W _ _ _ _ (16, [some (.ref 28), some (.int ((nI k) + 1))], []) (ae_en σ (au α [(3, fC n (W N) (α 3)), (5, upd (fC k (fun g => gWd B N W N g ((α 5) g) (t g) ((α 7) g)) (α 5)) k ((fC k (fun g => gWd B N W N g ((α 5) g) (t g) ((α 7) g)) (α 5)) k + (if 0 < (gGo B N W k ((α 5) k) (t k) ((α 7) k)) ∧ (gGo B N W k ((α 5) k) (t k) ((α 7) k)) ≤ N then (α 26) k else 0))), (7, upd (fC k (fun g => if 0 < gGo B N W g ((α 5) g) (t g) ((α 7) g) ∧ gGo B N W g ((α 5) g) (t g) ((α 7) g) ≤ N then 0 else (α 7) g) (α 7)) (nI k).toNatClampNeg ((fC k (fun g => if 0 < gGo B N W g ((α 5) g) (t g) ((α 7) g) ∧ gGo B N W g ((α 5) g) (t g) ((α 7) g) ≤ N then 0 else (α 7) g) (α 7)) (nI k).toNatClampNeg))]) z t0 ts)
      rw [show (nI k).toNatClampNeg = k from cI_cl (a := k) rfl (by omega)]
      rw [show (nI k) + 1 = nI (k + 1) from (cI_add (a := k) (b := 1) rfl rfl)]
      rw [fC_s (X := (fun g => gWd B N W N g ((α 5) g) (t g) ((α 7) g))) (x := _) (by show _ = gWd B N W N k _ _ _; rw [fC_at (Nat.le_refl k), (hL k (by omega)).2.2]; rfl), fC_s (X := (fun g => if 0 < gGo B N W g ((α 5) g) (t g) ((α 7) g) ∧ gGo B N W g ((α 5) g) (t g) ((α 7) g) ≤ N then 0 else (α 7) g)) (k := k) (x := fC k (fun g => if 0 < gGo B N W g ((α 5) g) (t g) ((α 7) g) ∧ gGo B N W g ((α 5) g) (t g) ((α 7) g) ≤ N then 0 else (α 7) g) (α 7) k) (by rw [fC_at (Nat.le_refl k)]; exact (if_neg h40).symm)]
      exact lp_comeTrue hC hW hN hL hs hn hn10 (k + 1) (by omega)
    · skip
      have h40 := bI_t h40
      show aw_W _ _ _ _ (41, [some (.ref 28), some (.int (nI k))], [.int (nI k), .ref 9]) (ae_en σ (au α [(3, fC n (W N) (α 3)), (5, upd (fC k (fun g => gWd B N W N g ((α 5) g) (t g) ((α 7) g)) (α 5)) k ((fC k (fun g => gWd B N W N g ((α 5) g) (t g) ((α 7) g)) (α 5)) k + (if 0 < (gGo B N W k ((α 5) k) (t k) ((α 7) k)) ∧ (gGo B N W k ((α 5) k) (t k) ((α 7) k)) ≤ N then (α 26) k else 0))), (7, fC k (fun g => if 0 < gGo B N W g ((α 5) g) (t g) ((α 7) g) ∧ gGo B N W g ((α 5) g) (t g) ((α 7) g) ≤ N then 0 else (α 7) g) (α 7))]) z t0 ts)
      refine aw_go 5 rfl ⟨trivial, trivial, (cI_in (a := k) rfl (by omega) (by decide)), trivial, trivial, trivial⟩ ?_
      show aw_W _ _ _ _ (16, [some (.ref 28), some (.int ((nI k) + 1))], []) (ae_en σ (au α [(3, fC n (W N) (α 3)), (5, upd (fC k (fun g => gWd B N W N g ((α 5) g) (t g) ((α 7) g)) (α 5)) k ((fC k (fun g => gWd B N W N g ((α 5) g) (t g) ((α 7) g)) (α 5)) k + (if 0 < (gGo B N W k ((α 5) k) (t k) ((α 7) k)) ∧ (gGo B N W k ((α 5) k) (t k) ((α 7) k)) ≤ N then (α 26) k else 0))), (7, upd (fC k (fun g => if 0 < gGo B N W g ((α 5) g) (t g) ((α 7) g) ∧ gGo B N W g ((α 5) g) (t g) ((α 7) g) ≤ N then 0 else (α 7) g) (α 7)) (nI k).toNatClampNeg 0)]) z t0 ts)
      rw [show (nI k).toNatClampNeg = k from cI_cl (a := k) rfl (by omega)]
      rw [show (nI k) + 1 = nI (k + 1) from (cI_add (a := k) (b := 1) rfl rfl)]
      rw [fC_s (X := (fun g => gWd B N W N g ((α 5) g) (t g) ((α 7) g))) (x := _) (by show _ = gWd B N W N k _ _ _; rw [fC_at (Nat.le_refl k), (hL k (by omega)).2.2]; rfl), fC_s (X := (fun g => if 0 < gGo B N W g ((α 5) g) (t g) ((α 7) g) ∧ gGo B N W g ((α 5) g) (t g) ((α 7) g) ≤ N then 0 else (α 7) g)) (k := k) (x := 0) (by exact (if_pos h40).symm)]
      exact lp_comeTrue hC hW hN hL hs hn hn10 (k + 1) (by omega)
termination_by n - 1 - k
decreasing_by all_goals omega
theorem ev_Forecast_comeTrue {n N : Nat} {B : ae_B} {W : Nat → Nat → Int32} {t : Nat → Int32} {zd : Nat} (hC : cOk B n (σ 1) (σ 3) (σ 5) (σ 15) (α 0) (α 1) (α 2) t0 ts) (hW : fW n N W (α 22)) (hN : N ≤ 60) (hL : fL B (n - 1) N W (α 5) t (α 7) (α 24) (α 25) (α 26)) (hs : (σ 17) = nI N) : aw_X P (zd + 4) 65 [.ref 28] (ae_en σ α z t0 ts) (fun r H => r = none ∧ H = (ae_en (au σ [(2, fMn 9999 ((σ 2) + nI N))]) (au α [(3, fC n (W N) (α 3)), (5, fC (n - 1) (fun g => gWd B N W N g ((α 5) g) (t g) ((α 7) g)) (α 5)), (7, fC (n - 1) (fun g => if 0 < gGo B N W g ((α 5) g) (t g) ((α 7) g) ∧ gGo B N W g ((α 5) g) (t g) ((α 7) g) ≤ N then 0 else (α 7) g) (α 7))]) z t0 ts)) := by
  obtain ⟨hn, hn10, hs3, hk0, hk1, hk2, hr⟩ := id hC
  refine aw_ev (cd := cd_Forecast_comeTrue) rfl rfl rfl ?_
  show aw_W _ _ _ _ (0, [some (.ref 28), none], []) (ae_en σ α z t0 ts)
  refine aw_go 16 rfl ⟨trivial, trivial, trivial, trivial, trivial, trivial, trivial, trivial, trivial, trivial, trivial, trivial, trivial, (by rw [hn, hs]; exact cpS (s := N * 10) (cI_mul (a := N) (b := 10) rfl rfl) (by omega) (by omega) (by decide)), trivial, trivial, trivial⟩ ?_
  show aw_W _ _ _ _ (16, [some (.ref 28), some (.int 0)], []) (ae_en σ (au α [(3, va_cpy (α 22) (α 3) ((σ 17) * 10).toNatClampNeg (0 : Int32).toNatClampNeg (σ 1).toNatClampNeg)]) z t0 ts)
  rw [show ((σ 17) * 10).toNatClampNeg = N * 10 from cI_cl (a := N * 10) (cI_mul (a := N) (b := 10) hs rfl) (by omega)]
  rw [show (0 : Int32).toNatClampNeg = 0 from cI_cl (a := 0) rfl (by omega)]
  rw [show (σ 1).toNatClampNeg = n from cI_cl (a := n) hn (by omega)]
  rw [fC_cpy, fC_cg (Y := W N) (fun j hj => hW N j (Nat.le_refl _) hj)]
  exact aw_to (lp_comeTrue hC hW hN hL hs hn hn10 0 (Nat.zero_le _)) rfl (by rw [fC_0, fC_0]; rfl)
theorem lp_dry {zd : Nat} {n : Nat} {B : ae_B} {w : Int32} {wt wr nv ra rb rc : Nat → Int32} (hC : cOk B n (σ 1) (σ 3) (σ 5) (σ 15) (α 0) (α 1) (α 2) t0 ts) (hW : fW n 0 (wD B n (α 3) (σ 2)) wr) (hn : (σ 1) = nI n) (hn10 : n ≤ 10) (k : Nat) (hk : k ≤ n) : aw_W P (zd + 6) cd_Forecast_dryOneDay (fun r H => ∃ (w : Int32) (wt : Nat → Int32) (wr : Nat → Int32) (nv : Nat → Int32) (ra : Nat → Int32) (rb : Nat → Int32) (rc : Nat → Int32), r = none ∧ H = (ae_en (au σ [(2, fMn 9999 ((σ 2) + 1)), (16, w), (17, nI 0)]) (au α [(3, fC n (fun p => fMx 0 ((α 3) p - gDr B n (α 3) (dyA (σ 2) 0) p)) (α 3)), (21, wt), (22, wr), (23, nv), (24, ra), (25, rb), (26, rc)]) z t0 ts)) (5, [some (.ref 28), some (.int (nI k))], []) (ae_en (au σ [(16, w), (17, nI 0)]) (au α [(3, fC k (fun p => fMx 0 ((α 3) p - gDr B n (α 3) (dyA (σ 2) 0) p)) (α 3)), (21, wt), (22, wr), (23, nv), (24, ra), (25, rb), (26, rc)]) z t0 ts) := by
  refine aw_go 5 rfl ⟨trivial, trivial, trivial, trivial, trivial, trivial⟩ ?_
  show aw_W _ _ _ _ (if (σ 1) ≤ (nI k) then 28 else 10, [some (.ref 28), some (.int (nI k))], []) (ae_en (au σ [(16, w), (17, nI 0)]) (au α [(3, fC k (fun p => fMx 0 ((α 3) p - gDr B n (α 3) (dyA (σ 2) 0) p)) (α 3)), (21, wt), (22, wr), (23, nv), (24, ra), (25, rb), (26, rc)]) z t0 ts)
  refine aw_br (c := (σ 1) ≤ (nI k)) (fun h9 => ?_) (fun h9 => ?_)
  · skip
    have h9 := cI_leT (a := n) (b := k) hn rfl (by omega) (by omega) h9
    show aw_W _ _ _ _ (28, [some (.ref 28), some (.int (nI k))], []) (ae_en (au σ [(16, w), (17, nI 0)]) (au α [(3, fC k (fun p => fMx 0 ((α 3) p - gDr B n (α 3) (dyA (σ 2) 0) p)) (α 3)), (21, wt), (22, wr), (23, nv), (24, ra), (25, rb), (26, rc)]) z t0 ts)
    have e8 : k = n := by omega
    refine aw_go 10 rfl ⟨trivial, trivial, trivial, trivial, trivial, trivial, trivial, trivial, trivial, trivial, trivial⟩ ?_
    show aw_W _ _ _ _ (38, [some (.ref 28), some (.int (nI k))], []) (ae_en (au σ [(2, fMn 9999 ((σ 2) + 1)), (16, w), (17, nI 0)]) (au α [(3, fC k (fun p => fMx 0 ((α 3) p - gDr B n (α 3) (dyA (σ 2) 0) p)) (α 3)), (21, wt), (22, wr), (23, nv), (24, ra), (25, rb), (26, rc)]) z t0 ts)
    refine aw_ret rfl rfl trivial ?_
    rw [e8]
    exact ⟨_, _, _, _, _, _, _, rfl, rfl⟩
  · skip
    have h9 := cI_leF (a := n) (b := k) hn rfl (by omega) (by omega) h9
    show aw_W _ _ _ _ (10, [some (.ref 28), some (.int (nI k))], []) (ae_en (au σ [(16, w), (17, nI 0)]) (au α [(3, fC k (fun p => fMx 0 ((α 3) p - gDr B n (α 3) (dyA (σ 2) 0) p)) (α 3)), (21, wt), (22, wr), (23, nv), (24, ra), (25, rb), (26, rc)]) z t0 ts)
    refine aw_go 12 rfl ⟨trivial, trivial, trivial, trivial, trivial, trivial, trivial, trivial, trivial, (cI_in (a := k) rfl (by omega) (by decide)), trivial, trivial, trivial⟩ ?_
    show aw_W _ _ _ _ (22, [some (.ref 28), some (.int (nI k))], [.int (nI k), .ref 28, .int ((fC k (fun p => fMx 0 ((α 3) p - gDr B n (α 3) (dyA (σ 2) 0) p)) (α 3)) (nI k).toNatClampNeg), .int 0, .int (nI k), .ref 5]) (ae_en (au σ [(16, w), (17, nI 0)]) (au α [(3, fC k (fun p => fMx 0 ((α 3) p - gDr B n (α 3) (dyA (σ 2) 0) p)) (α 3)), (21, wt), (22, wr), (23, nv), (24, ra), (25, rb), (26, rc)]) z t0 ts)
    rw [show (nI k).toNatClampNeg = k from cI_cl (a := k) rfl (by omega)]
    refine aw_call rfl rfl (ev_Forecast_dries (p := k) hC hW (by decide) (by omega)) ?_
    rintro _ _ ⟨wt_22, nv_22, rfl, rfl⟩
    show aw_W _ _ _ _ (23, [some (.ref 28), some (.int (nI k))], [.int (gDr B n ((wD B n (α 3) (σ 2)) 0) (dyA (σ 2) 0) k), .int ((fC k (fun p => fMx 0 ((α 3) p - gDr B n (α 3) (dyA (σ 2) 0) p)) (α 3)) k), .int 0, .int (nI k), .ref 5]) (ae_en (au σ [(16, nI 1), (17, nI 0)]) (au α [(3, fC k (fun p => fMx 0 ((α 3) p - gDr B n (α 3) (dyA (σ 2) 0) p)) (α 3)), (21, wt_22), (22, wr), (23, nv_22), (24, ra), (25, rb), (26, rc)]) z t0 ts)
    refine aw_go 5 rfl ⟨trivial, trivial, (cI_in (a := k) rfl (by omega) (by decide)), trivial, trivial, trivial⟩ ?_
    show aw_W _ _ _ _ (5, [some (.ref 28), some (.int ((nI k) + 1))], []) (ae_en (au σ [(16, nI 1), (17, nI 0)]) (au α [(3, upd (fC k (fun p => fMx 0 ((α 3) p - gDr B n (α 3) (dyA (σ 2) 0) p)) (α 3)) (nI k).toNatClampNeg (fMx 0 (((fC k (fun p => fMx 0 ((α 3) p - gDr B n (α 3) (dyA (σ 2) 0) p)) (α 3)) k) - (gDr B n ((wD B n (α 3) (σ 2)) 0) (dyA (σ 2) 0) k)))), (21, wt_22), (22, wr), (23, nv_22), (24, ra), (25, rb), (26, rc)]) z t0 ts)
    rw [show (nI k).toNatClampNeg = k from cI_cl (a := k) rfl (by omega)]
    rw [show (nI k) + 1 = nI (k + 1) from (cI_add (a := k) (b := 1) rfl rfl)]
    rw [fC_s (X := (fun p => fMx 0 ((α 3) p - gDr B n (α 3) (dyA (σ 2) 0) p))) (by rw [fC_at (Nat.le_refl k)]; rfl)]
    exact lp_dry hC hW hn hn10 (k + 1) (by omega)
termination_by n - k
decreasing_by all_goals omega
theorem ev_Forecast_dryOneDay {n : Nat} {B : ae_B} {zd : Nat} (hC : cOk B n (σ 1) (σ 3) (σ 5) (σ 15) (α 0) (α 1) (α 2) t0 ts) : aw_X P (zd + 7) 66 [.ref 28] (ae_en σ α z t0 ts) (fun r H => ∃ (w : Int32) (wt : Nat → Int32) (wr : Nat → Int32) (nv : Nat → Int32) (ra : Nat → Int32) (rb : Nat → Int32) (rc : Nat → Int32), r = none ∧ H = (ae_en (au σ [(2, fMn 9999 ((σ 2) + 1)), (16, w), (17, nI 0)]) (au α [(3, fC n (fun p => fMx 0 ((α 3) p - gDr B n (α 3) (dyA (σ 2) 0) p)) (α 3)), (21, wt), (22, wr), (23, nv), (24, ra), (25, rb), (26, rc)]) z t0 ts)) := by
  obtain ⟨hn, hn10, hs3, hk0, hk1, hk2, hr⟩ := id hC
  refine aw_ev (cd := cd_Forecast_dryOneDay) rfl rfl rfl ?_
  show aw_W _ _ _ _ (0, [some (.ref 28), none], []) (ae_en σ α z t0 ts)
  refine aw_go 2 rfl ⟨trivial, trivial, trivial⟩ ?_
  refine aw_call rfl rfl (ev_Forecast_look (N := 0) hC (by decide) rfl) ?_
  rintro _ _ ⟨w_2, wt_2, wr_2, nv_2, ra_2, rb_2, rc_2, rfl, rfl, hW_2, hL_2⟩
  show aw_W _ _ _ _ (3, [some (.ref 28), none], []) (ae_en (au σ [(16, w_2), (17, nI 0)]) (au α [(21, wt_2), (22, wr_2), (23, nv_2), (24, ra_2), (25, rb_2), (26, rc_2)]) z t0 ts)
  refine aw_go 2 rfl ⟨trivial, trivial, trivial⟩ ?_
  exact aw_to (lp_dry hC hW_2 hn hn10 0 (Nat.zero_le _)) rfl (by rw [fC_0]; rfl)
end L27
