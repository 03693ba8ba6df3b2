/-! the class reads the three parts -/
def pPt (M : Nat) (key : Int32) (l : ae_TL) : Option ae_PR := if hdT l = key then bP (pp M 0 0 l.tail) (fun l1 s1 => if hdT l1 = -11 then some (true, l1.tail, s1) else some (false, l1, [])) else some (false, l, [])
/-- a whole text: three parts, then the end -/
def pTx (M : Nat) (l : ae_TL) : Option (Bool × ae_TL × List Int32 × List Int32 × List Int32) := match pPt M (-13) l with
  | none => none
  | some (false, l1, _) => some (false, l1, [], [], [])
  | some (true, l1, s1) => match pPt M (-14) l1 with
    | none => none
    | some (false, l2, _) => some (false, l2, [], [], [])
    | some (true, l2, s2) => match pPt M (-15) l2 with
      | none => none
      | some (false, l3, _) => some (false, l3, [], [], [])
      | some (true, l3, s3) => if hdT l3 = -17 then some (true, l3, s1, s2, s3) else some (false, l3, [], [], [])
theorem pPt_pH {M : Nat} {key : Int32} {l r : ae_TL} {b : Bool} {s : List Int32} (hk : ¬ key = -17) (h : pPt M key l = some (b, r, s)) : pH l r s.length ∧ (b = true → dOk s 0 1 ∧ pH l r (s.length + 2)) := by
  unfold pPt at h
  split at h
  · next e =>
    have ht := pH_tail (l := l) (by rw [e]; exact hk)
    rcases bP_some h with ⟨l1, s1, h1, h⟩ | ⟨l1, s1, h1, h⟩
    · obtain ⟨a1, a2⟩ := pp_pH _ _ _ _ _ _ _ h1
      split at h
      · next f =>
        have ht2 := pH_tail (l := l1) (by rw [f]; decide)
        cases h
        have hh := pH_trans (pH_trans ht a1) ht2
        exact ⟨pH_le hh (by omega), fun _ => ⟨a2 rfl, pH_le hh (by omega)⟩⟩
      · cases h
        exact ⟨pH_le (pH_trans ht a1) (Nat.zero_le _), fun q => by cases q⟩
    · obtain ⟨a1, -⟩ := pp_pH _ _ _ _ _ _ _ h1
      cases h
      exact ⟨pH_le (pH_trans ht a1) (Nat.zero_le _), fun q => by cases q⟩
  · cases h
    exact ⟨pH_refl l, fun q => by cases q⟩
theorem pPt_tot {M : Nat} {key : Int32} {l : ae_TL} (hM : 2000 ≤ M) (hl : l.length ≤ 161) : ∃ R, pPt M key l = some R := by
  unfold pPt
  split
  · refine bP_ex (pp_tot M _ _ _ ?_) (fun l1 s1 _ => ?_)
    · have : l.tail.length = l.length - 1 := List.length_tail
      show 10 * _ + 5 < M
      omega
    · split <;> exact ⟨_, rfl⟩
  · exact ⟨_, rfl⟩
/-- the places of tokens lie on the tape -/
def plL (s : Nat) (l : ae_TL) : Prop := ∀ x, x ∈ l → x.2 ≤ s
theorem lx_pl (f : Nat → Int32) (s : Nat) : ∀ (m p : Nat), p ≤ s → plL s (lx f s m p)
  | 0, p, h => by intro x hx; rw [lx, List.mem_singleton] at hx; rw [hx]; exact Nat.le_refl s
  | m + 1, p, h => by
    unfold lx
    split
    · split
      · exact lx_pl f s m (p + 1) (by omega)
      · split
        · intro x hx
          rcases List.mem_cons.mp hx with rfl | hx
          · exact h
          · exact lx_pl f s m _ (rE_le _ f s 160 p h) x hx
        · split
          · intro x hx
            rcases List.mem_cons.mp hx with rfl | hx
            · exact h
            · exact lx_pl f s m _ (rE_le _ f s 160 p h) x hx
          · intro x hx
            rcases List.mem_cons.mp hx with rfl | hx
            · exact h
            · exact lx_pl f s m (p + 1) (by omega) x hx
    · intro x hx; rw [List.mem_singleton] at hx; rw [hx]; exact Nat.le_refl s
theorem lx_gL (f : Nat → Int32) (s : Nat) : ∀ (m p : Nat), gL (lx f s m p)
  | 0, p => rfl
  | m + 1, p => by
    have cs : ∀ {x : Int32 × Nat} {l : ae_TL}, gL l → gL (x :: l) := by
      intro x l h
      match l, h with
      | y :: l, h => exact h
    unfold lx
    split
    · split
      · exact lx_gL f s m (p + 1)
      · split
        · exact cs (lx_gL f s m _)
        · split
          · exact cs (lx_gL f s m _)
          · exact cs (lx_gL f s m _)
    · rfl
theorem hdP_le {s : Nat} {l r : ae_TL} {k : Nat} (h : plL s l) (hp : pH l r k) (g : gL r) : hdP r ≤ s := by
  obtain ⟨-, -, p, e⟩ := hp
  match r, g with
  | x :: r, _ => exact h x (by rw [e]; exact List.mem_append_right _ List.mem_cons_self)
section L38
variable {P : ae_P} {σ : Nat → Int32} {α : Nat → Nat → Int32} {tx : Nat → Option Nat} {tl : List va_E}

theorem ev_part {cnt M : Nat} (hcn : (σ 12) = nI cnt) (hc161 : cnt ≤ 161) {key : Int32} {q : Nat} {l : ae_TL} {R : ae_PR} {a c : Nat} {S E : Nat → Int32} {D : Nat} (hpp : pPt M key l = some R) (hk : ¬ key = -17) (hq3 : q < 3) (hT : tkA (α 17) (α 18) a l) (hg : gL l) (hl : a + l.length = cnt) (hca : c ≤ a) : aw_X P (D + 60) 80 [.ref 19, .int key, .int (nI q)] (ae_rd (au σ [(13, nI a), (14, nI c)]) (au α [(19, S), (20, E)]) tx tl) (fun r H => ∃ (c2 : Int32) (S2 E2 : Nat → Int32), r = some (.int (bI (R.1 = true))) ∧ H = ae_rd (au σ [(13, nI (cnt - R.2.1.length)), (14, c2)]) (au α [(19, S2), (20, E2)]) tx tl ∧ (R.1 = true → c2 = nI (c + R.2.2.length) ∧ S2 = putL S c R.2.2 ∧ E2 = upd E q (nI (c + R.2.2.length)))) := by
  obtain ⟨t1, t2, t3⟩ := tk_hd hT hg
  have hl1 := gL_pos hg
  have ea : a = cnt - l.length := by omega
  have ih0 := (pr_all (P := P) (σ := σ) (α := au α [(20, E)]) (tx := tx) (tl := tl) hcn hc161 M).1
  refine aw_ev (cd := cd_Reader_part) rfl rfl rfl ?_
  unfold pPt at hpp
  by_cases e : hdT l = key
  · rw [if_pos e] at hpp
    have ht := pH_tail (l := l) (by rw [e]; exact hk)
    have ht1 := ht.1
    have htl : l.tail.length = l.length - 1 := List.length_tail
    have hl2 : 2 ≤ l.length := Nat.lt_of_not_le (fun q => absurd (gL_one hg q) (by rw [e]; exact hk))
    rcases bP_some hpp with ⟨l1, s1, h1, hpp⟩ | ⟨l1, s1, h1, rfl⟩
    · have hp := (pp_pH _ _ _ _ _ _ _ h1).1
      have hp1 := hp.1
      have hg1 := hp.2.1 (ht.2.1 hg)
      have hl3 := gL_pos hg1
      obtain ⟨k1, k2⟩ := tk_rest (cnt := cnt) t3 (by omega) hp
      obtain ⟨u1, u2, u3⟩ := tk_hd k1 hg1
      by_cases f : hdT l1 = -11
      · rw [if_pos f] at hpp
        cases hpp
        have f17 : ¬ hdT l1 = -17 := by rw [f]; decide
        have htl1 : l1.tail.length = l1.length - 1 := List.length_tail
        have hl4 : 2 ≤ l1.length := Nat.lt_of_not_le (fun q => absurd (gL_one hg1 q) f17)
        show aw_W _ _ _ _ (0, [some (.ref 19), some (.int key), some (.int (nI q))], []) (ae_rd (au σ [(13, nI a), (14, nI c)]) (au α [(19, S), (20, E)]) tx tl)
        refine aw_go 2 rfl ⟨trivial, trivial, trivial⟩ ?_
        refine aw_call rfl rfl (ev_pass_y (t := key) (a := a) (cnt := cnt) rfl hcn (by omega) hc161 (by rw [← e]; exact t1)) ?_
        rintro _ _ ⟨rfl, rfl⟩
        show aw_W _ _ _ _ (3, [some (.ref 19), some (.int key), some (.int (nI q))], [.int 1]) (ae_rd (au σ [(13, nI (a + 1)), (14, nI c)]) (au α [(19, S), (20, E)]) tx tl)
        refine aw_go 1 rfl ⟨trivial, trivial⟩ ?_
        refine aw_br (c := (1 : Int32) = 0) (fun h3 => ?_) (fun h3 => ?_)
        · skip
          have h3 := cI_eqT (a := 1) (b := 0) rfl rfl (by omega) (by omega) h3
          show aw_W _ _ _ _ (8, [some (.ref 19), some (.int key), some (.int (nI q))], []) (ae_rd (au σ [(13, nI (a + 1)), (14, nI c)]) (au α [(19, S), (20, E)]) tx tl)
          exact absurd h3 (by decide)
        · skip
          have h3 := cI_eqF (a := 1) (b := 0) rfl rfl (by omega) (by omega) h3
          show aw_W _ _ _ _ (4, [some (.ref 19), some (.int key), some (.int (nI q))], []) (ae_rd (au σ [(13, nI (a + 1)), (14, nI c)]) (au α [(19, S), (20, E)]) tx tl)
          refine aw_go 2 rfl ⟨trivial, trivial, trivial⟩ ?_
          refine aw_call rfl rfl (ih0 0 l.tail (true, l1, s1) (a + 1) c S _ h1  (by omega) t3 (ht.2.1 hg) (by omega) (by omega) (by show 8 * (5 - 0) + 8 ≤ D + 59; omega)) ?_
          rintro _ _ ⟨c_6, S_6, rfl, rfl, hb_6⟩
          show aw_W _ _ _ _ (7, [some (.ref 19), some (.int key), some (.int (nI q))], [.int 1]) (ae_rd (au σ [(13, nI (cnt - l1.length)), (14, c_6)]) (au α [(19, S_6), (20, E)]) tx tl)
          obtain ⟨rfl, rfl⟩ := hb_6 rfl
          refine aw_go 1 rfl ⟨trivial, trivial⟩ ?_
          refine aw_br (c := ¬ (1 : Int32) = 0) (fun h7 => ?_) (fun h7 => ?_)
          · skip
            have h7 := cI_eqF (a := 1) (b := 0) rfl rfl (by omega) (by omega) h7
            show aw_W _ _ _ _ (10, [some (.ref 19), some (.int key), some (.int (nI q))], []) (ae_rd (au σ [(13, nI (cnt - l1.length)), (14, nI (c + s1.length))]) (au α [(19, putL S c s1), (20, E)]) tx tl)
            refine aw_go 8 rfl ⟨trivial, trivial, trivial, trivial, trivial, (cI_in (a := q) rfl (by omega) (by decide)), trivial, trivial, trivial⟩ ?_
            show aw_W _ _ _ _ (18, [some (.ref 19), some (.int key), some (.int (nI q))], [.int (-11), .ref 19]) (ae_rd (au σ [(13, nI (cnt - l1.length)), (14, nI (c + s1.length))]) (au α [(19, putL S c s1), (20, upd E (nI q).toNatClampNeg (nI (c + s1.length)))]) tx tl)
            rw [show (nI q).toNatClampNeg = q from cI_cl (a := q) rfl (by omega)]
            refine aw_call rfl rfl (ev_pass_y (t := (-11)) (a := cnt - l1.length) (cnt := cnt) rfl hcn (by omega) hc161 (by rw [← f]; exact u1)) ?_
            rintro _ _ ⟨rfl, rfl⟩
            show aw_W _ _ _ _ (19, [some (.ref 19), some (.int key), some (.int (nI q))], [.int 1]) (ae_rd (au σ [(13, nI ((cnt - l1.length) + 1)), (14, nI (c + s1.length))]) (au α [(19, putL S c s1), (20, upd E q (nI (c + s1.length)))]) tx tl)
            refine aw_ret rfl rfl (by first | exact Or.inl rfl | exact Or.inr rfl | exact bI_b _) ?_
            refine ⟨_, _, _, rfl, ?_, fun _ => ⟨rfl, rfl, rfl⟩⟩
            show _ = ae_rd (au σ [(13, nI (cnt - l1.tail.length)), (14, nI (c + s1.length))]) (au α [(19, putL S c s1), (20, upd E q (nI (c + s1.length)))]) tx tl
            rw [show cnt - l1.tail.length = cnt - l1.length + 1 by omega]
          · skip
            have h7 := Classical.not_not.mp h7
            have h7 := cI_eqT (a := 1) (b := 0) rfl rfl (by omega) (by omega) h7
            show aw_W _ _ _ _ (8, [some (.ref 19), some (.int key), some (.int (nI q))], []) (ae_rd (au σ [(13, nI (cnt - l1.length)), (14, nI (c + s1.length))]) (au α [(19, putL S c s1), (20, E)]) tx tl)
            exact absurd h7 (by decide)
      · rw [if_neg f] at hpp
        cases hpp
        show aw_W _ _ _ _ (0, [some (.ref 19), some (.int key), some (.int (nI q))], []) (ae_rd (au σ [(13, nI a), (14, nI c)]) (au α [(19, S), (20, E)]) tx tl)
        refine aw_go 2 rfl ⟨trivial, trivial, trivial⟩ ?_
        refine aw_call rfl rfl (ev_pass_y (t := key) (a := a) (cnt := cnt) rfl hcn (by omega) hc161 (by rw [← e]; exact t1)) ?_
        rintro _ _ ⟨rfl, rfl⟩
        show aw_W _ _ _ _ (3, [some (.ref 19), some (.int key), some (.int (nI q))], [.int 1]) (ae_rd (au σ [(13, nI (a + 1)), (14, nI c)]) (au α [(19, S), (20, E)]) tx tl)
        refine aw_go 1 rfl ⟨trivial, trivial⟩ ?_
        refine aw_br (c := (1 : Int32) = 0) (fun h3 => ?_) (fun h3 => ?_)
        · skip
          have h3 := cI_eqT (a := 1) (b := 0) rfl rfl (by omega) (by omega) h3
          show aw_W _ _ _ _ (8, [some (.ref 19), some (.int key), some (.int (nI q))], []) (ae_rd (au σ [(13, nI (a + 1)), (14, nI c)]) (au α [(19, S), (20, E)]) tx tl)
          exact absurd h3 (by decide)
        · skip
          have h3 := cI_eqF (a := 1) (b := 0) rfl rfl (by omega) (by omega) h3
          show aw_W _ _ _ _ (4, [some (.ref 19), some (.int key), some (.int (nI q))], []) (ae_rd (au σ [(13, nI (a + 1)), (14, nI c)]) (au α [(19, S), (20, E)]) tx tl)
          refine aw_go 2 rfl ⟨trivial, trivial, trivial⟩ ?_
          refine aw_call rfl rfl (ih0 0 l.tail (true, l1, s1) (a + 1) c S _ h1  (by omega) t3 (ht.2.1 hg) (by omega) (by omega) (by show 8 * (5 - 0) + 8 ≤ D + 59; omega)) ?_
          rintro _ _ ⟨c_6, S_6, rfl, rfl, hb_6⟩
          show aw_W _ _ _ _ (7, [some (.ref 19), some (.int key), some (.int (nI q))], [.int 1]) (ae_rd (au σ [(13, nI (cnt - l1.length)), (14, c_6)]) (au α [(19, S_6), (20, E)]) tx tl)
          obtain ⟨rfl, rfl⟩ := hb_6 rfl
          refine aw_go 1 rfl ⟨trivial, trivial⟩ ?_
          refine aw_br (c := ¬ (1 : Int32) = 0) (fun h7 => ?_) (fun h7 => ?_)
          · skip
            have h7 := cI_eqF (a := 1) (b := 0) rfl rfl (by omega) (by omega) h7
            show aw_W _ _ _ _ (10, [some (.ref 19), some (.int key), some (.int (nI q))], []) (ae_rd (au σ [(13, nI (cnt - l1.length)), (14, nI (c + s1.length))]) (au α [(19, putL S c s1), (20, E)]) tx tl)
            refine aw_go 8 rfl ⟨trivial, trivial, trivial, trivial, trivial, (cI_in (a := q) rfl (by omega) (by decide)), trivial, trivial, trivial⟩ ?_
            show aw_W _ _ _ _ (18, [some (.ref 19), some (.int key), some (.int (nI q))], [.int (-11), .ref 19]) (ae_rd (au σ [(13, nI (cnt - l1.length)), (14, nI (c + s1.length))]) (au α [(19, putL S c s1), (20, upd E (nI q).toNatClampNeg (nI (c + s1.length)))]) tx tl)
            rw [show (nI q).toNatClampNeg = q from cI_cl (a := q) rfl (by omega)]
            refine aw_callE rfl rfl (ev_pass_n (y := (-11)) (a := cnt - l1.length) (cnt := cnt) rfl hcn (by omega) hc161 u1 f) ?_
            show aw_W _ _ _ _ (19, [some (.ref 19), some (.int key), some (.int (nI q))], [.int 0]) (ae_rd (au σ [(13, nI (cnt - l1.length)), (14, nI (c + s1.length))]) (au α [(19, putL S c s1), (20, upd E q (nI (c + s1.length)))]) tx tl)
            refine aw_ret rfl rfl (by first | exact Or.inl rfl | exact Or.inr rfl | exact bI_b _) ?_
            exact ⟨_, _, _, rfl, rfl, fun q => by cases q⟩
          · skip
            have h7 := Classical.not_not.mp h7
            have h7 := cI_eqT (a := 1) (b := 0) rfl rfl (by omega) (by omega) h7
            show aw_W _ _ _ _ (8, [some (.ref 19), some (.int key), some (.int (nI q))], []) (ae_rd (au σ [(13, nI (cnt - l1.length)), (14, nI (c + s1.length))]) (au α [(19, putL S c s1), (20, E)]) tx tl)
            exact absurd h7 (by decide)
    · have hp := (pp_pH _ _ _ _ _ _ _ h1).1
      have hp1 := hp.1
      show aw_W _ _ _ _ (0, [some (.ref 19), some (.int key), some (.int (nI q))], []) (ae_rd (au σ [(13, nI a), (14, nI c)]) (au α [(19, S), (20, E)]) tx tl)
      refine aw_go 2 rfl ⟨trivial, trivial, trivial⟩ ?_
      refine aw_call rfl rfl (ev_pass_y (t := key) (a := a) (cnt := cnt) rfl hcn (by omega) hc161 (by rw [← e]; exact t1)) ?_
      rintro _ _ ⟨rfl, rfl⟩
      show aw_W _ _ _ _ (3, [some (.ref 19), some (.int key), some (.int (nI q))], [.int 1]) (ae_rd (au σ [(13, nI (a + 1)), (14, nI c)]) (au α [(19, S), (20, E)]) tx tl)
      refine aw_go 1 rfl ⟨trivial, trivial⟩ ?_
      refine aw_br (c := (1 : Int32) = 0) (fun h3 => ?_) (fun h3 => ?_)
      · skip
        have h3 := cI_eqT (a := 1) (b := 0) rfl rfl (by omega) (by omega) h3
        show aw_W _ _ _ _ (8, [some (.ref 19), some (.int key), some (.int (nI q))], []) (ae_rd (au σ [(13, nI (a + 1)), (14, nI c)]) (au α [(19, S), (20, E)]) tx tl)
        exact absurd h3 (by decide)
      · skip
        have h3 := cI_eqF (a := 1) (b := 0) rfl rfl (by omega) (by omega) h3
        show aw_W _ _ _ _ (4, [some (.ref 19), some (.int key), some (.int (nI q))], []) (ae_rd (au σ [(13, nI (a + 1)), (14, nI c)]) (au α [(19, S), (20, E)]) tx tl)
        refine aw_go 2 rfl ⟨trivial, trivial, trivial⟩ ?_
        refine aw_call rfl rfl (ih0 0 l.tail (false, l1, s1) (a + 1) c S _ h1  (by omega) t3 (ht.2.1 hg) (by omega) (by omega) (by show 8 * (5 - 0) + 8 ≤ D + 59; omega)) ?_
        rintro _ _ ⟨c_6, S_6, rfl, rfl, hb_6⟩
        show aw_W _ _ _ _ (7, [some (.ref 19), some (.int key), some (.int (nI q))], [.int 0]) (ae_rd (au σ [(13, nI (cnt - l1.length)), (14, c_6)]) (au α [(19, S_6), (20, E)]) tx tl)
        refine aw_go 1 rfl ⟨trivial, trivial⟩ ?_
        refine aw_br (c := ¬ (0 : Int32) = 0) (fun h7 => ?_) (fun h7 => ?_)
        · skip
          have h7 := cI_eqF (a := 0) (b := 0) rfl rfl (by omega) (by omega) h7
          show aw_W _ _ _ _ (10, [some (.ref 19), some (.int key), some (.int (nI q))], []) (ae_rd (au σ [(13, nI (cnt - l1.length)), (14, c_6)]) (au α [(19, S_6), (20, E)]) tx tl)
          exact absurd h7 (by decide)
        · skip
          have h7 := Classical.not_not.mp h7
          have h7 := cI_eqT (a := 0) (b := 0) rfl rfl (by omega) (by omega) h7
          show aw_W _ _ _ _ (8, [some (.ref 19), some (.int key), some (.int (nI q))], []) (ae_rd (au σ [(13, nI (cnt - l1.length)), (14, c_6)]) (au α [(19, S_6), (20, E)]) tx tl)
          refine aw_go 1 rfl ⟨trivial, trivial⟩ ?_
          refine aw_ret rfl rfl (by first | exact Or.inl rfl | exact Or.inr rfl | exact bI_b _) ?_
          exact ⟨_, _, _, rfl, rfl, fun q => by cases q⟩
  · rw [if_neg e] at hpp
    cases hpp
    show aw_W _ _ _ _ (0, [some (.ref 19), some (.int key), some (.int (nI q))], []) (ae_rd (au σ [(13, nI a), (14, nI c)]) (au α [(19, S), (20, E)]) tx tl)
    refine aw_go 2 rfl ⟨trivial, trivial, trivial⟩ ?_
    refine aw_callE rfl rfl (ev_pass_n (y := key) (a := a) (cnt := cnt) rfl hcn (by omega) hc161 t1 e) ?_
    show aw_W _ _ _ _ (3, [some (.ref 19), some (.int key), some (.int (nI q))], [.int 0]) (ae_rd (au σ [(13, nI a), (14, nI c)]) (au α [(19, S), (20, E)]) tx tl)
    refine aw_go 1 rfl ⟨trivial, trivial⟩ ?_
    refine aw_br (c := (0 : Int32) = 0) (fun h3 => ?_) (fun h3 => ?_)
    · skip
      have h3 := cI_eqT (a := 0) (b := 0) rfl rfl (by omega) (by omega) h3
      show aw_W _ _ _ _ (8, [some (.ref 19), some (.int key), some (.int (nI q))], []) (ae_rd (au σ [(13, nI a), (14, nI c)]) (au α [(19, S), (20, E)]) tx tl)
      refine aw_go 1 rfl ⟨trivial, trivial⟩ ?_
      refine aw_ret rfl rfl (by first | exact Or.inl rfl | exact Or.inr rfl | exact bI_b _) ?_
      exact ⟨nI c, S, E, rfl, by show _ = ae_rd (au σ [(13, nI (cnt - l.length)), (14, nI c)]) (au α [(19, S), (20, E)]) tx tl; rw [← ea], fun q => by cases q⟩
    · skip
      have h3 := cI_eqF (a := 0) (b := 0) rfl rfl (by omega) (by omega) h3
      show aw_W _ _ _ _ (4, [some (.ref 19), some (.int key), some (.int (nI q))], []) (ae_rd (au σ [(13, nI a), (14, nI c)]) (au α [(19, S), (20, E)]) tx tl)
      exact absurd h3 (by decide)
theorem ev_splitL {s : Nat} {zd : Nat} {L0 : ae_TL} (hL : lx (α 16) s 160 0 = L0) (hz : P.2.2 = .null ∨ P.2.2 = .retAddr 700) (hs : (σ 11) = nI s) (hs160 : s ≤ 160) : aw_X P (zd + 7) 70 [.ref 19] (ae_rd σ α tx tl) (fun r H => ∃ (rt : Nat → Int32) (rp : Nat → Int32), r = none ∧ H = ae_rd (au σ [(12, nI L0.length)]) (au α [(17, rt), (18, rp)]) tx tl ∧ tkA rt rp 0 L0) := by
  subst hL
  exact ev_Reader_split hz hs hs160
theorem ev_read_no {s M : Nat} {zd : Nat} {L0 : ae_TL} (hL : lx (α 16) s 160 0 = L0) (hz : P.2.2 = .null ∨ P.2.2 = .retAddr 700) (hs : (σ 11) = nI s) (hs160 : s ≤ 160) {r0 : ae_TL} {x y z2 : List Int32} (hpp : pTx M L0 = some (false, r0, x, y, z2)) : aw_X P (zd + 62) 69 [.ref 19] (ae_rd σ α tx tl) (fun r H => ∃ (ct av cv : Int32) (rt rp S2 E2 : Nat → Int32), r = some (.int (nI (hdP r0))) ∧ H = ae_rd (au σ [(12, ct), (13, av), (14, cv)]) (au α [(17, rt), (18, rp), (19, S2), (20, E2)]) tx tl ∧ gL r0 ∧ ∃ k, pH L0 r0 k) := by
  have hln : L0.length ≤ 161 := by rw [← hL]; exact lx_len (α 16) s 160 0
  have hg0 : gL L0 := by rw [← hL]; exact lx_gL (α 16) s 160 0
  have hl0 := gL_pos hg0
  refine aw_ev (cd := cd_Reader_read) rfl rfl rfl ?_
  unfold pTx at hpp
  rcases h1 : pPt M (-13) L0 with _ | ⟨b1, l1, s1⟩
  · rw [h1] at hpp
    cases hpp
  cases b1 with
  | false =>
    rw [h1] at hpp
    have e0 : l1 = r0 := by cases hpp; rfl
    subst e0
    have hh1 := pPt_pH (by decide) h1
    have hp1 := hh1.1
    have hq1 := hp1.1
    have hg1 := hp1.2.1 hg0
    have hl1 := gL_pos hg1
    show aw_W _ _ _ _ (0, [some (.ref 19), none], []) (ae_rd σ α tx tl)
    refine aw_go 1 rfl ⟨trivial, trivial⟩ ?_
    refine aw_call rfl rfl (ev_splitL  hL hz hs hs160) ?_
    rintro _ _ ⟨rt_1, rp_1, rfl, rfl, hT_1⟩
    show aw_W _ _ _ _ (2, [some (.ref 19), none], []) (ae_rd (au σ [(12, nI L0.length)]) (au α [(17, rt_1), (18, rp_1)]) tx tl)
    refine aw_go 9 rfl ⟨trivial, trivial, trivial, trivial, trivial, trivial, trivial, trivial, trivial, trivial⟩ ?_
    show aw_W _ _ _ _ (11, [some (.ref 19), none], [.int 0, .int (-13), .ref 19]) (ae_rd (au σ [(12, nI L0.length), (13, 0), (14, 0)]) (au α [(17, rt_1), (18, rp_1)]) tx tl)
    refine aw_call rfl rfl (ev_part (σ := au σ [(12, nI L0.length)]) (α := au α [(17, rt_1), (18, rp_1)]) (R := (false, l1, s1)) (a := 0) (c := 0) (S := (α 19)) (E := (α 20)) (l := L0) (cnt := L0.length) (M := M) (key := (-13)) (q := 0) rfl hln h1 (by decide) (by decide) hT_1 hg0 (by omega) (by omega)) ?_
    rintro _ _ ⟨c2_11, S2_11, E2_11, rfl, rfl, hb_11⟩
    show aw_W _ _ _ _ (12, [some (.ref 19), none], [.int 0]) (ae_rd (au σ [(12, nI L0.length), (13, nI (L0.length - l1.length)), (14, c2_11)]) (au α [(17, rt_1), (18, rp_1), (19, S2_11), (20, E2_11)]) tx tl)
    obtain ⟨k1, m1⟩ := tk_rest (cnt := L0.length) hT_1 (by omega) hp1
    obtain ⟨u1, v1, -⟩ := tk_hd k1 hg1
    refine aw_go 1 rfl ⟨trivial, trivial⟩ ?_
    refine aw_br (c := (0 : Int32) = 0) (fun h12 => ?_) (fun h12 => ?_)
    · skip
      have h12 := cI_eqT (a := 0) (b := 0) rfl rfl (by omega) (by omega) h12
      show aw_W _ _ _ _ (29, [some (.ref 19), none], []) (ae_rd (au σ [(12, nI L0.length), (13, nI (L0.length - l1.length)), (14, c2_11)]) (au α [(17, rt_1), (18, rp_1), (19, S2_11), (20, E2_11)]) tx tl)
      refine aw_go 4 rfl ⟨trivial, trivial, trivial, trivial, trivial⟩ ?_
      refine aw_br (c := ¬ (0 : Int32) = 0) (fun h32 => ?_) (fun h32 => ?_)
      · skip
        have h32 := cI_eqF (a := 0) (b := 0) rfl rfl (by omega) (by omega) h32
        show aw_W _ _ _ _ (38, [some (.ref 19), some (.int 0)], []) (ae_rd (au σ [(12, nI L0.length), (13, nI (L0.length - l1.length)), (14, c2_11)]) (au α [(17, rt_1), (18, rp_1), (19, S2_11), (20, E2_11)]) tx tl)
        exact absurd h32 (by decide)
      · skip
        have h32 := Classical.not_not.mp h32
        have h32 := cI_eqT (a := 0) (b := 0) rfl rfl (by omega) (by omega) h32
        show aw_W _ _ _ _ (33, [some (.ref 19), some (.int 0)], []) (ae_rd (au σ [(12, nI L0.length), (13, nI (L0.length - l1.length)), (14, c2_11)]) (au α [(17, rt_1), (18, rp_1), (19, S2_11), (20, E2_11)]) tx tl)
        refine aw_go 5 rfl ⟨trivial, trivial, trivial, trivial, trivial, trivial⟩ ?_
        show aw_W _ _ _ _ (if (nI (L0.length - l1.length)) < (nI L0.length) then 40 else 38, [some (.ref 19), some (.int 0)], []) (ae_rd (au σ [(12, nI L0.length), (13, nI (L0.length - l1.length)), (14, c2_11)]) (au α [(17, rt_1), (18, rp_1), (19, S2_11), (20, E2_11)]) tx tl)
        refine aw_br (c := (nI (L0.length - l1.length)) < (nI L0.length)) (fun h37 => ?_) (fun h37 => ?_)
        · skip
          have h37 := cI_ltT (a := L0.length - l1.length) (b := L0.length) rfl rfl (by omega) (by omega) h37
          show aw_W _ _ _ _ (40, [some (.ref 19), some (.int 0)], []) (ae_rd (au σ [(12, nI L0.length), (13, nI (L0.length - l1.length)), (14, c2_11)]) (au α [(17, rt_1), (18, rp_1), (19, S2_11), (20, E2_11)]) tx tl)
          refine aw_go 5 rfl ⟨trivial, trivial, trivial, trivial, (cI_in (a := L0.length - l1.length) rfl (by omega) (by decide)), trivial⟩ ?_
          show aw_W _ _ _ _ (45, [some (.ref 19), some (.int 0)], [.int (rp_1 (nI (L0.length - l1.length)).toNatClampNeg)]) (ae_rd (au σ [(12, nI L0.length), (13, nI (L0.length - l1.length)), (14, c2_11)]) (au α [(17, rt_1), (18, rp_1), (19, S2_11), (20, E2_11)]) tx tl)
          rw [show (nI (L0.length - l1.length)).toNatClampNeg = L0.length - l1.length from cI_cl (a := L0.length - l1.length) rfl (by omega)]
          refine aw_ret rfl rfl trivial ?_
          exact ⟨_, _, _, _, _, _, _, congrArg (fun q => some (Value.int q)) v1, rfl, hg1, _, hp1⟩
        · skip
          have h37 := cI_ltF (a := L0.length - l1.length) (b := L0.length) rfl rfl (by omega) (by omega) h37
          show aw_W _ _ _ _ (38, [some (.ref 19), some (.int 0)], []) (ae_rd (au σ [(12, nI L0.length), (13, nI (L0.length - l1.length)), (14, c2_11)]) (au α [(17, rt_1), (18, rp_1), (19, S2_11), (20, E2_11)]) tx tl)
          exact absurd h37 (by omega)
    · skip
      have h12 := cI_eqF (a := 0) (b := 0) rfl rfl (by omega) (by omega) h12
      show aw_W _ _ _ _ (13, [some (.ref 19), none], []) (ae_rd (au σ [(12, nI L0.length), (13, nI (L0.length - l1.length)), (14, c2_11)]) (au α [(17, rt_1), (18, rp_1), (19, S2_11), (20, E2_11)]) tx tl)
      exact absurd h12 (by decide)
  | true =>
    rw [h1] at hpp
    dsimp only at hpp
    have hh1 := pPt_pH (by decide) h1
    have hp1 := hh1.1
    have hq1 := hp1.1
    have hg1 := hp1.2.1 hg0
    have hl1 := gL_pos hg1
    rcases h2 : pPt M (-14) l1 with _ | ⟨b2, l2, s2⟩
    · rw [h2] at hpp
      cases hpp
    cases b2 with
    | false =>
      rw [h2] at hpp
      have e0 : l2 = r0 := by cases hpp; rfl
      subst e0
      have hh2 := pPt_pH (by decide) h2
      have hp2 := hh2.1
      have hq2 := hp2.1
      have hg2 := hp2.2.1 hg1
      have hl2 := gL_pos hg2
      show aw_W _ _ _ _ (0, [some (.ref 19), none], []) (ae_rd σ α tx tl)
      refine aw_go 1 rfl ⟨trivial, trivial⟩ ?_
      refine aw_call rfl rfl (ev_splitL  hL hz hs hs160) ?_
      rintro _ _ ⟨rt_1, rp_1, rfl, rfl, hT_1⟩
      show aw_W _ _ _ _ (2, [some (.ref 19), none], []) (ae_rd (au σ [(12, nI L0.length)]) (au α [(17, rt_1), (18, rp_1)]) tx tl)
      refine aw_go 9 rfl ⟨trivial, trivial, trivial, trivial, trivial, trivial, trivial, trivial, trivial, trivial⟩ ?_
      show aw_W _ _ _ _ (11, [some (.ref 19), none], [.int 0, .int (-13), .ref 19]) (ae_rd (au σ [(12, nI L0.length), (13, 0), (14, 0)]) (au α [(17, rt_1), (18, rp_1)]) tx tl)
      refine aw_call rfl rfl (ev_part (σ := au σ [(12, nI L0.length)]) (α := au α [(17, rt_1), (18, rp_1)]) (R := (true, l1, s1)) (a := 0) (c := 0) (S := (α 19)) (E := (α 20)) (l := L0) (cnt := L0.length) (M := M) (key := (-13)) (q := 0) rfl hln h1 (by decide) (by decide) hT_1 hg0 (by omega) (by omega)) ?_
      rintro _ _ ⟨c2_11, S2_11, E2_11, rfl, rfl, hb_11⟩
      show aw_W _ _ _ _ (12, [some (.ref 19), none], [.int 1]) (ae_rd (au σ [(12, nI L0.length), (13, nI (L0.length - l1.length)), (14, c2_11)]) (au α [(17, rt_1), (18, rp_1), (19, S2_11), (20, E2_11)]) tx tl)
      obtain ⟨rfl, rfl, rfl⟩ := hb_11 rfl
      obtain ⟨k1, m1⟩ := tk_rest (cnt := L0.length) hT_1 (by omega) hp1
      obtain ⟨u1, v1, -⟩ := tk_hd k1 hg1
      refine aw_go 1 rfl ⟨trivial, trivial⟩ ?_
      refine aw_br (c := (1 : Int32) = 0) (fun h12 => ?_) (fun h12 => ?_)
      · skip
        have h12 := cI_eqT (a := 1) (b := 0) rfl rfl (by omega) (by omega) h12
        show aw_W _ _ _ _ (29, [some (.ref 19), none], []) (ae_rd (au σ [(12, nI L0.length), (13, nI (L0.length - l1.length)), (14, nI (0 + s1.length))]) (au α [(17, rt_1), (18, rp_1), (19, (putL (α 19) 0 s1)), (20, (upd (α 20) 0 (nI (0 + s1.length))))]) tx tl)
        exact absurd h12 (by decide)
      · skip
        have h12 := cI_eqF (a := 1) (b := 0) rfl rfl (by omega) (by omega) h12
        show aw_W _ _ _ _ (13, [some (.ref 19), none], []) (ae_rd (au σ [(12, nI L0.length), (13, nI (L0.length - l1.length)), (14, nI (0 + s1.length))]) (au α [(17, rt_1), (18, rp_1), (19, (putL (α 19) 0 s1)), (20, (upd (α 20) 0 (nI (0 + s1.length))))]) tx tl)
        refine aw_go 3 rfl ⟨trivial, trivial, trivial, trivial⟩ ?_
        refine aw_call rfl rfl (ev_part (σ := au σ [(12, nI L0.length)]) (α := au α [(17, rt_1), (18, rp_1)]) (R := (false, l2, s2)) (a := (L0.length - l1.length)) (c := (0 + s1.length)) (S := (putL (α 19) 0 s1)) (E := (upd (α 20) 0 (nI (0 + s1.length)))) (l := l1) (cnt := L0.length) (M := M) (key := (-14)) (q := 1) rfl hln h2 (by decide) (by decide) k1 hg1 (by omega) (by omega)) ?_
        rintro _ _ ⟨c2_16, S2_16, E2_16, rfl, rfl, hb_16⟩
        show aw_W _ _ _ _ (17, [some (.ref 19), none], [.int 0]) (ae_rd (au σ [(12, nI L0.length), (13, nI (L0.length - l2.length)), (14, c2_16)]) (au α [(17, rt_1), (18, rp_1), (19, S2_16), (20, E2_16)]) tx tl)
        obtain ⟨k2, m2⟩ := tk_rest (cnt := L0.length) k1 (by omega) hp2
        obtain ⟨u2, v2, -⟩ := tk_hd k2 hg2
        refine aw_go 1 rfl ⟨trivial, trivial⟩ ?_
        refine aw_br (c := (0 : Int32) = 0) (fun h17 => ?_) (fun h17 => ?_)
        · skip
          have h17 := cI_eqT (a := 0) (b := 0) rfl rfl (by omega) (by omega) h17
          show aw_W _ _ _ _ (29, [some (.ref 19), none], []) (ae_rd (au σ [(12, nI L0.length), (13, nI (L0.length - l2.length)), (14, c2_16)]) (au α [(17, rt_1), (18, rp_1), (19, S2_16), (20, E2_16)]) tx tl)
          refine aw_go 4 rfl ⟨trivial, trivial, trivial, trivial, trivial⟩ ?_
          refine aw_br (c := ¬ (0 : Int32) = 0) (fun h32 => ?_) (fun h32 => ?_)
          · skip
            have h32 := cI_eqF (a := 0) (b := 0) rfl rfl (by omega) (by omega) h32
            show aw_W _ _ _ _ (38, [some (.ref 19), some (.int 0)], []) (ae_rd (au σ [(12, nI L0.length), (13, nI (L0.length - l2.length)), (14, c2_16)]) (au α [(17, rt_1), (18, rp_1), (19, S2_16), (20, E2_16)]) tx tl)
            exact absurd h32 (by decide)
          · skip
            have h32 := Classical.not_not.mp h32
            have h32 := cI_eqT (a := 0) (b := 0) rfl rfl (by omega) (by omega) h32
            show aw_W _ _ _ _ (33, [some (.ref 19), some (.int 0)], []) (ae_rd (au σ [(12, nI L0.length), (13, nI (L0.length - l2.length)), (14, c2_16)]) (au α [(17, rt_1), (18, rp_1), (19, S2_16), (20, E2_16)]) tx tl)
            refine aw_go 5 rfl ⟨trivial, trivial, trivial, trivial, trivial, trivial⟩ ?_
            show aw_W _ _ _ _ (if (nI (L0.length - l2.length)) < (nI L0.length) then 40 else 38, [some (.ref 19), some (.int 0)], []) (ae_rd (au σ [(12, nI L0.length), (13, nI (L0.length - l2.length)), (14, c2_16)]) (au α [(17, rt_1), (18, rp_1), (19, S2_16), (20, E2_16)]) tx tl)
            refine aw_br (c := (nI (L0.length - l2.length)) < (nI L0.length)) (fun h37 => ?_) (fun h37 => ?_)
            · skip
              have h37 := cI_ltT (a := L0.length - l2.length) (b := L0.length) rfl rfl (by omega) (by omega) h37
              show aw_W _ _ _ _ (40, [some (.ref 19), some (.int 0)], []) (ae_rd (au σ [(12, nI L0.length), (13, nI (L0.length - l2.length)), (14, c2_16)]) (au α [(17, rt_1), (18, rp_1), (19, S2_16), (20, E2_16)]) tx tl)
              refine aw_go 5 rfl ⟨trivial, trivial, trivial, trivial, (cI_in (a := L0.length - l2.length) rfl (by omega) (by decide)), trivial⟩ ?_
              show aw_W _ _ _ _ (45, [some (.ref 19), some (.int 0)], [.int (rp_1 (nI (L0.length - l2.length)).toNatClampNeg)]) (ae_rd (au σ [(12, nI L0.length), (13, nI (L0.length - l2.length)), (14, c2_16)]) (au α [(17, rt_1), (18, rp_1), (19, S2_16), (20, E2_16)]) tx tl)
              rw [show (nI (L0.length - l2.length)).toNatClampNeg = L0.length - l2.length from cI_cl (a := L0.length - l2.length) rfl (by omega)]
              refine aw_ret rfl rfl trivial ?_
              exact ⟨_, _, _, _, _, _, _, congrArg (fun q => some (Value.int q)) v2, rfl, hg2, _, (pH_trans hp1 hp2)⟩
            · skip
              have h37 := cI_ltF (a := L0.length - l2.length) (b := L0.length) rfl rfl (by omega) (by omega) h37
              show aw_W _ _ _ _ (38, [some (.ref 19), some (.int 0)], []) (ae_rd (au σ [(12, nI L0.length), (13, nI (L0.length - l2.length)), (14, c2_16)]) (au α [(17, rt_1), (18, rp_1), (19, S2_16), (20, E2_16)]) tx tl)
              exact absurd h37 (by omega)
        · skip
          have h17 := cI_eqF (a := 0) (b := 0) rfl rfl (by omega) (by omega) h17
          show aw_W _ _ _ _ (18, [some (.ref 19), none], []) (ae_rd (au σ [(12, nI L0.length), (13, nI (L0.length - l2.length)), (14, c2_16)]) (au α [(17, rt_1), (18, rp_1), (19, S2_16), (20, E2_16)]) tx tl)
          exact absurd h17 (by decide)
    | true =>
      rw [h2] at hpp
      dsimp only at hpp
      have hh2 := pPt_pH (by decide) h2
      have hp2 := hh2.1
      have hq2 := hp2.1
      have hg2 := hp2.2.1 hg1
      have hl2 := gL_pos hg2
      rcases h3 : pPt M (-15) l2 with _ | ⟨b3, l3, s3⟩
      · rw [h3] at hpp
        cases hpp
      cases b3 with
      | false =>
        rw [h3] at hpp
        have e0 : l3 = r0 := by cases hpp; rfl
        subst e0
        have hh3 := pPt_pH (by decide) h3
        have hp3 := hh3.1
        have hq3 := hp3.1
        have hg3 := hp3.2.1 hg2
        have hl3 := gL_pos hg3
        show aw_W _ _ _ _ (0, [some (.ref 19), none], []) (ae_rd σ α tx tl)
        refine aw_go 1 rfl ⟨trivial, trivial⟩ ?_
        refine aw_call rfl rfl (ev_splitL  hL hz hs hs160) ?_
        rintro _ _ ⟨rt_1, rp_1, rfl, rfl, hT_1⟩
        show aw_W _ _ _ _ (2, [some (.ref 19), none], []) (ae_rd (au σ [(12, nI L0.length)]) (au α [(17, rt_1), (18, rp_1)]) tx tl)
        refine aw_go 9 rfl ⟨trivial, trivial, trivial, trivial, trivial, trivial, trivial, trivial, trivial, trivial⟩ ?_
        show aw_W _ _ _ _ (11, [some (.ref 19), none], [.int 0, .int (-13), .ref 19]) (ae_rd (au σ [(12, nI L0.length), (13, 0), (14, 0)]) (au α [(17, rt_1), (18, rp_1)]) tx tl)
        refine aw_call rfl rfl (ev_part (σ := au σ [(12, nI L0.length)]) (α := au α [(17, rt_1), (18, rp_1)]) (R := (true, l1, s1)) (a := 0) (c := 0) (S := (α 19)) (E := (α 20)) (l := L0) (cnt := L0.length) (M := M) (key := (-13)) (q := 0) rfl hln h1 (by decide) (by decide) hT_1 hg0 (by omega) (by omega)) ?_
        rintro _ _ ⟨c2_11, S2_11, E2_11, rfl, rfl, hb_11⟩
        show aw_W _ _ _ _ (12, [some (.ref 19), none], [.int 1]) (ae_rd (au σ [(12, nI L0.length), (13, nI (L0.length - l1.length)), (14, c2_11)]) (au α [(17, rt_1), (18, rp_1), (19, S2_11), (20, E2_11)]) tx tl)
        obtain ⟨rfl, rfl, rfl⟩ := hb_11 rfl
        obtain ⟨k1, m1⟩ := tk_rest (cnt := L0.length) hT_1 (by omega) hp1
        obtain ⟨u1, v1, -⟩ := tk_hd k1 hg1
        refine aw_go 1 rfl ⟨trivial, trivial⟩ ?_
        refine aw_br (c := (1 : Int32) = 0) (fun h12 => ?_) (fun h12 => ?_)
        · skip
          have h12 := cI_eqT (a := 1) (b := 0) rfl rfl (by omega) (by omega) h12
          show aw_W _ _ _ _ (29, [some (.ref 19), none], []) (ae_rd (au σ [(12, nI L0.length), (13, nI (L0.length - l1.length)), (14, nI (0 + s1.length))]) (au α [(17, rt_1), (18, rp_1), (19, (putL (α 19) 0 s1)), (20, (upd (α 20) 0 (nI (0 + s1.length))))]) tx tl)
          exact absurd h12 (by decide)
        · skip
          have h12 := cI_eqF (a := 1) (b := 0) rfl rfl (by omega) (by omega) h12
          show aw_W _ _ _ _ (13, [some (.ref 19), none], []) (ae_rd (au σ [(12, nI L0.length), (13, nI (L0.length - l1.length)), (14, nI (0 + s1.length))]) (au α [(17, rt_1), (18, rp_1), (19, (putL (α 19) 0 s1)), (20, (upd (α 20) 0 (nI (0 + s1.length))))]) tx tl)
          refine aw_go 3 rfl ⟨trivial, trivial, trivial, trivial⟩ ?_
          refine aw_call rfl rfl (ev_part (σ := au σ [(12, nI L0.length)]) (α := au α [(17, rt_1), (18, rp_1)]) (R := (true, l2, s2)) (a := (L0.length - l1.length)) (c := (0 + s1.length)) (S := (putL (α 19) 0 s1)) (E := (upd (α 20) 0 (nI (0 + s1.length)))) (l := l1) (cnt := L0.length) (M := M) (key := (-14)) (q := 1) rfl hln h2 (by decide) (by decide) k1 hg1 (by omega) (by omega)) ?_
          rintro _ _ ⟨c2_16, S2_16, E2_16, rfl, rfl, hb_16⟩
          show aw_W _ _ _ _ (17, [some (.ref 19), none], [.int 1]) (ae_rd (au σ [(12, nI L0.length), (13, nI (L0.length - l2.length)), (14, c2_16)]) (au α [(17, rt_1), (18, rp_1), (19, S2_16), (20, E2_16)]) tx tl)
          obtain ⟨rfl, rfl, rfl⟩ := hb_16 rfl
          obtain ⟨k2, m2⟩ := tk_rest (cnt := L0.length) k1 (by omega) hp2
          obtain ⟨u2, v2, -⟩ := tk_hd k2 hg2
          refine aw_go 1 rfl ⟨trivial, trivial⟩ ?_
          refine aw_br (c := (1 : Int32) = 0) (fun h17 => ?_) (fun h17 => ?_)
          · skip
            have h17 := cI_eqT (a := 1) (b := 0) rfl rfl (by omega) (by omega) h17
            show aw_W _ _ _ _ (29, [some (.ref 19), none], []) (ae_rd (au σ [(12, nI L0.length), (13, nI (L0.length - l2.length)), (14, nI (0 + s1.length + s2.length))]) (au α [(17, rt_1), (18, rp_1), (19, (putL (putL (α 19) 0 s1) (0 + s1.length) s2)), (20, (upd (upd (α 20) 0 (nI (0 + s1.length))) 1 (nI (0 + s1.length + s2.length))))]) tx tl)
            exact absurd h17 (by decide)
          · skip
            have h17 := cI_eqF (a := 1) (b := 0) rfl rfl (by omega) (by omega) h17
            show aw_W _ _ _ _ (18, [some (.ref 19), none], []) (ae_rd (au σ [(12, nI L0.length), (13, nI (L0.length - l2.length)), (14, nI (0 + s1.length + s2.length))]) (au α [(17, rt_1), (18, rp_1), (19, (putL (putL (α 19) 0 s1) (0 + s1.length) s2)), (20, (upd (upd (α 20) 0 (nI (0 + s1.length))) 1 (nI (0 + s1.length + s2.length))))]) tx tl)
            refine aw_go 3 rfl ⟨trivial, trivial, trivial, trivial⟩ ?_
            refine aw_call rfl rfl (ev_part (σ := au σ [(12, nI L0.length)]) (α := au α [(17, rt_1), (18, rp_1)]) (R := (false, l3, s3)) (a := (L0.length - l2.length)) (c := (0 + s1.length + s2.length)) (S := (putL (putL (α 19) 0 s1) (0 + s1.length) s2)) (E := (upd (upd (α 20) 0 (nI (0 + s1.length))) 1 (nI (0 + s1.length + s2.length)))) (l := l2) (cnt := L0.length) (M := M) (key := (-15)) (q := 2) rfl hln h3 (by decide) (by decide) k2 hg2 (by omega) (by omega)) ?_
            rintro _ _ ⟨c2_21, S2_21, E2_21, rfl, rfl, hb_21⟩
            show aw_W _ _ _ _ (22, [some (.ref 19), none], [.int 0]) (ae_rd (au σ [(12, nI L0.length), (13, nI (L0.length - l3.length)), (14, c2_21)]) (au α [(17, rt_1), (18, rp_1), (19, S2_21), (20, E2_21)]) tx tl)
            obtain ⟨k3, m3⟩ := tk_rest (cnt := L0.length) k2 (by omega) hp3
            obtain ⟨u3, v3, -⟩ := tk_hd k3 hg3
            refine aw_go 1 rfl ⟨trivial, trivial⟩ ?_
            refine aw_br (c := (0 : Int32) = 0) (fun h22 => ?_) (fun h22 => ?_)
            · skip
              have h22 := cI_eqT (a := 0) (b := 0) rfl rfl (by omega) (by omega) h22
              show aw_W _ _ _ _ (29, [some (.ref 19), none], []) (ae_rd (au σ [(12, nI L0.length), (13, nI (L0.length - l3.length)), (14, c2_21)]) (au α [(17, rt_1), (18, rp_1), (19, S2_21), (20, E2_21)]) tx tl)
              refine aw_go 4 rfl ⟨trivial, trivial, trivial, trivial, trivial⟩ ?_
              refine aw_br (c := ¬ (0 : Int32) = 0) (fun h32 => ?_) (fun h32 => ?_)
              · skip
                have h32 := cI_eqF (a := 0) (b := 0) rfl rfl (by omega) (by omega) h32
                show aw_W _ _ _ _ (38, [some (.ref 19), some (.int 0)], []) (ae_rd (au σ [(12, nI L0.length), (13, nI (L0.length - l3.length)), (14, c2_21)]) (au α [(17, rt_1), (18, rp_1), (19, S2_21), (20, E2_21)]) tx tl)
                exact absurd h32 (by decide)
              · skip
                have h32 := Classical.not_not.mp h32
                have h32 := cI_eqT (a := 0) (b := 0) rfl rfl (by omega) (by omega) h32
                show aw_W _ _ _ _ (33, [some (.ref 19), some (.int 0)], []) (ae_rd (au σ [(12, nI L0.length), (13, nI (L0.length - l3.length)), (14, c2_21)]) (au α [(17, rt_1), (18, rp_1), (19, S2_21), (20, E2_21)]) tx tl)
                refine aw_go 5 rfl ⟨trivial, trivial, trivial, trivial, trivial, trivial⟩ ?_
                show aw_W _ _ _ _ (if (nI (L0.length - l3.length)) < (nI L0.length) then 40 else 38, [some (.ref 19), some (.int 0)], []) (ae_rd (au σ [(12, nI L0.length), (13, nI (L0.length - l3.length)), (14, c2_21)]) (au α [(17, rt_1), (18, rp_1), (19, S2_21), (20, E2_21)]) tx tl)
                refine aw_br (c := (nI (L0.length - l3.length)) < (nI L0.length)) (fun h37 => ?_) (fun h37 => ?_)
                · skip
                  have h37 := cI_ltT (a := L0.length - l3.length) (b := L0.length) rfl rfl (by omega) (by omega) h37
                  show aw_W _ _ _ _ (40, [some (.ref 19), some (.int 0)], []) (ae_rd (au σ [(12, nI L0.length), (13, nI (L0.length - l3.length)), (14, c2_21)]) (au α [(17, rt_1), (18, rp_1), (19, S2_21), (20, E2_21)]) tx tl)
                  refine aw_go 5 rfl ⟨trivial, trivial, trivial, trivial, (cI_in (a := L0.length - l3.length) rfl (by omega) (by decide)), trivial⟩ ?_
                  show aw_W _ _ _ _ (45, [some (.ref 19), some (.int 0)], [.int (rp_1 (nI (L0.length - l3.length)).toNatClampNeg)]) (ae_rd (au σ [(12, nI L0.length), (13, nI (L0.length - l3.length)), (14, c2_21)]) (au α [(17, rt_1), (18, rp_1), (19, S2_21), (20, E2_21)]) tx tl)
                  rw [show (nI (L0.length - l3.length)).toNatClampNeg = L0.length - l3.length from cI_cl (a := L0.length - l3.length) rfl (by omega)]
                  refine aw_ret rfl rfl trivial ?_
                  exact ⟨_, _, _, _, _, _, _, congrArg (fun q => some (Value.int q)) v3, rfl, hg3, _, (pH_trans (pH_trans hp1 hp2) hp3)⟩
                · skip
                  have h37 := cI_ltF (a := L0.length - l3.length) (b := L0.length) rfl rfl (by omega) (by omega) h37
                  show aw_W _ _ _ _ (38, [some (.ref 19), some (.int 0)], []) (ae_rd (au σ [(12, nI L0.length), (13, nI (L0.length - l3.length)), (14, c2_21)]) (au α [(17, rt_1), (18, rp_1), (19, S2_21), (20, E2_21)]) tx tl)
                  exact absurd h37 (by omega)
            · skip
              have h22 := cI_eqF (a := 0) (b := 0) rfl rfl (by omega) (by omega) h22
              show aw_W _ _ _ _ (23, [some (.ref 19), none], []) (ae_rd (au σ [(12, nI L0.length), (13, nI (L0.length - l3.length)), (14, c2_21)]) (au α [(17, rt_1), (18, rp_1), (19, S2_21), (20, E2_21)]) tx tl)
              exact absurd h22 (by decide)
      | true =>
        rw [h3] at hpp
        dsimp only at hpp
        have hh3 := pPt_pH (by decide) h3
        have hp3 := hh3.1
        have hq3 := hp3.1
        have hg3 := hp3.2.1 hg2
        have hl3 := gL_pos hg3
        by_cases f : hdT l3 = -17
        · replace hpp : (if hdT l3 = -17 then some (true, l3, s1, s2, s3) else some (false, l3, [], [], [])) = some (false, r0, x, y, z2) := hpp
          rw [if_pos f] at hpp
          cases hpp
        · replace hpp : (if hdT l3 = -17 then some (true, l3, s1, s2, s3) else some (false, l3, [], [], [])) = some (false, r0, x, y, z2) := hpp
          rw [if_neg f] at hpp
          have e0 : l3 = r0 := by cases hpp; rfl
          subst e0
          show aw_W _ _ _ _ (0, [some (.ref 19), none], []) (ae_rd σ α tx tl)
          refine aw_go 1 rfl ⟨trivial, trivial⟩ ?_
          refine aw_call rfl rfl (ev_splitL  hL hz hs hs160) ?_
          rintro _ _ ⟨rt_1, rp_1, rfl, rfl, hT_1⟩
          show aw_W _ _ _ _ (2, [some (.ref 19), none], []) (ae_rd (au σ [(12, nI L0.length)]) (au α [(17, rt_1), (18, rp_1)]) tx tl)
          refine aw_go 9 rfl ⟨trivial, trivial, trivial, trivial, trivial, trivial, trivial, trivial, trivial, trivial⟩ ?_
          show aw_W _ _ _ _ (11, [some (.ref 19), none], [.int 0, .int (-13), .ref 19]) (ae_rd (au σ [(12, nI L0.length), (13, 0), (14, 0)]) (au α [(17, rt_1), (18, rp_1)]) tx tl)
          refine aw_call rfl rfl (ev_part (σ := au σ [(12, nI L0.length)]) (α := au α [(17, rt_1), (18, rp_1)]) (R := (true, l1, s1)) (a := 0) (c := 0) (S := (α 19)) (E := (α 20)) (l := L0) (cnt := L0.length) (M := M) (key := (-13)) (q := 0) rfl hln h1 (by decide) (by decide) hT_1 hg0 (by omega) (by omega)) ?_
          rintro _ _ ⟨c2_11, S2_11, E2_11, rfl, rfl, hb_11⟩
          show aw_W _ _ _ _ (12, [some (.ref 19), none], [.int 1]) (ae_rd (au σ [(12, nI L0.length), (13, nI (L0.length - l1.length)), (14, c2_11)]) (au α [(17, rt_1), (18, rp_1), (19, S2_11), (20, E2_11)]) tx tl)
          obtain ⟨rfl, rfl, rfl⟩ := hb_11 rfl
          obtain ⟨k1, m1⟩ := tk_rest (cnt := L0.length) hT_1 (by omega) hp1
          obtain ⟨u1, v1, -⟩ := tk_hd k1 hg1
          refine aw_go 1 rfl ⟨trivial, trivial⟩ ?_
          refine aw_br (c := (1 : Int32) = 0) (fun h12 => ?_) (fun h12 => ?_)
          · skip
            have h12 := cI_eqT (a := 1) (b := 0) rfl rfl (by omega) (by omega) h12
            show aw_W _ _ _ _ (29, [some (.ref 19), none], []) (ae_rd (au σ [(12, nI L0.length), (13, nI (L0.length - l1.length)), (14, nI (0 + s1.length))]) (au α [(17, rt_1), (18, rp_1), (19, (putL (α 19) 0 s1)), (20, (upd (α 20) 0 (nI (0 + s1.length))))]) tx tl)
            exact absurd h12 (by decide)
          · skip
            have h12 := cI_eqF (a := 1) (b := 0) rfl rfl (by omega) (by omega) h12
            show aw_W _ _ _ _ (13, [some (.ref 19), none], []) (ae_rd (au σ [(12, nI L0.length), (13, nI (L0.length - l1.length)), (14, nI (0 + s1.length))]) (au α [(17, rt_1), (18, rp_1), (19, (putL (α 19) 0 s1)), (20, (upd (α 20) 0 (nI (0 + s1.length))))]) tx tl)
            refine aw_go 3 rfl ⟨trivial, trivial, trivial, trivial⟩ ?_
            refine aw_call rfl rfl (ev_part (σ := au σ [(12, nI L0.length)]) (α := au α [(17, rt_1), (18, rp_1)]) (R := (true, l2, s2)) (a := (L0.length - l1.length)) (c := (0 + s1.length)) (S := (putL (α 19) 0 s1)) (E := (upd (α 20) 0 (nI (0 + s1.length)))) (l := l1) (cnt := L0.length) (M := M) (key := (-14)) (q := 1) rfl hln h2 (by decide) (by decide) k1 hg1 (by omega) (by omega)) ?_
            rintro _ _ ⟨c2_16, S2_16, E2_16, rfl, rfl, hb_16⟩
            show aw_W _ _ _ _ (17, [some (.ref 19), none], [.int 1]) (ae_rd (au σ [(12, nI L0.length), (13, nI (L0.length - l2.length)), (14, c2_16)]) (au α [(17, rt_1), (18, rp_1), (19, S2_16), (20, E2_16)]) tx tl)
            obtain ⟨rfl, rfl, rfl⟩ := hb_16 rfl
            obtain ⟨k2, m2⟩ := tk_rest (cnt := L0.length) k1 (by omega) hp2
            obtain ⟨u2, v2, -⟩ := tk_hd k2 hg2
            refine aw_go 1 rfl ⟨trivial, trivial⟩ ?_
            refine aw_br (c := (1 : Int32) = 0) (fun h17 => ?_) (fun h17 => ?_)
            · skip
              have h17 := cI_eqT (a := 1) (b := 0) rfl rfl (by omega) (by omega) h17
              show aw_W _ _ _ _ (29, [some (.ref 19), none], []) (ae_rd (au σ [(12, nI L0.length), (13, nI (L0.length - l2.length)), (14, nI (0 + s1.length + s2.length))]) (au α [(17, rt_1), (18, rp_1), (19, (putL (putL (α 19) 0 s1) (0 + s1.length) s2)), (20, (upd (upd (α 20) 0 (nI (0 + s1.length))) 1 (nI (0 + s1.length + s2.length))))]) tx tl)
              exact absurd h17 (by decide)
            · skip
              have h17 := cI_eqF (a := 1) (b := 0) rfl rfl (by omega) (by omega) h17
              show aw_W _ _ _ _ (18, [some (.ref 19), none], []) (ae_rd (au σ [(12, nI L0.length), (13, nI (L0.length - l2.length)), (14, nI (0 + s1.length + s2.length))]) (au α [(17, rt_1), (18, rp_1), (19, (putL (putL (α 19) 0 s1) (0 + s1.length) s2)), (20, (upd (upd (α 20) 0 (nI (0 + s1.length))) 1 (nI (0 + s1.length + s2.length))))]) tx tl)
              refine aw_go 3 rfl ⟨trivial, trivial, trivial, trivial⟩ ?_
              refine aw_call rfl rfl (ev_part (σ := au σ [(12, nI L0.length)]) (α := au α [(17, rt_1), (18, rp_1)]) (R := (true, l3, s3)) (a := (L0.length - l2.length)) (c := (0 + s1.length + s2.length)) (S := (putL (putL (α 19) 0 s1) (0 + s1.length) s2)) (E := (upd (upd (α 20) 0 (nI (0 + s1.length))) 1 (nI (0 + s1.length + s2.length)))) (l := l2) (cnt := L0.length) (M := M) (key := (-15)) (q := 2) rfl hln h3 (by decide) (by decide) k2 hg2 (by omega) (by omega)) ?_
              rintro _ _ ⟨c2_21, S2_21, E2_21, rfl, rfl, hb_21⟩
              show aw_W _ _ _ _ (22, [some (.ref 19), none], [.int 1]) (ae_rd (au σ [(12, nI L0.length), (13, nI (L0.length - l3.length)), (14, c2_21)]) (au α [(17, rt_1), (18, rp_1), (19, S2_21), (20, E2_21)]) tx tl)
              obtain ⟨rfl, rfl, rfl⟩ := hb_21 rfl
              obtain ⟨k3, m3⟩ := tk_rest (cnt := L0.length) k2 (by omega) hp3
              obtain ⟨u3, v3, -⟩ := tk_hd k3 hg3
              refine aw_go 1 rfl ⟨trivial, trivial⟩ ?_
              refine aw_br (c := (1 : Int32) = 0) (fun h22 => ?_) (fun h22 => ?_)
              · skip
                have h22 := cI_eqT (a := 1) (b := 0) rfl rfl (by omega) (by omega) h22
                show aw_W _ _ _ _ (29, [some (.ref 19), none], []) (ae_rd (au σ [(12, nI L0.length), (13, nI (L0.length - l3.length)), (14, nI (0 + s1.length + s2.length + s3.length))]) (au α [(17, rt_1), (18, rp_1), (19, (putL (putL (putL (α 19) 0 s1) (0 + s1.length) s2) (0 + s1.length + s2.length) s3)), (20, (upd (upd (upd (α 20) 0 (nI (0 + s1.length))) 1 (nI (0 + s1.length + s2.length))) 2 (nI (0 + s1.length + s2.length + s3.length))))]) tx tl)
                exact absurd h22 (by decide)
              · skip
                have h22 := cI_eqF (a := 1) (b := 0) rfl rfl (by omega) (by omega) h22
                show aw_W _ _ _ _ (23, [some (.ref 19), none], []) (ae_rd (au σ [(12, nI L0.length), (13, nI (L0.length - l3.length)), (14, nI (0 + s1.length + s2.length + s3.length))]) (au α [(17, rt_1), (18, rp_1), (19, (putL (putL (putL (α 19) 0 s1) (0 + s1.length) s2) (0 + s1.length + s2.length) s3)), (20, (upd (upd (upd (α 20) 0 (nI (0 + s1.length))) 1 (nI (0 + s1.length + s2.length))) 2 (nI (0 + s1.length + s2.length + s3.length))))]) tx tl)
                refine aw_go 1 rfl ⟨trivial, trivial⟩ ?_
                refine aw_callE rfl rfl (ev_Reader_token  (a := L0.length - l3.length) (cnt := L0.length) rfl rfl (by omega) hln u3) ?_
                show aw_W _ _ _ _ (25, [some (.ref 19), none], [.int (hdT l3)]) (ae_rd (au σ [(12, nI L0.length), (13, nI (L0.length - l3.length)), (14, nI (0 + s1.length + s2.length + s3.length))]) (au α [(17, rt_1), (18, rp_1), (19, (putL (putL (putL (α 19) 0 s1) (0 + s1.length) s2) (0 + s1.length + s2.length) s3)), (20, (upd (upd (upd (α 20) 0 (nI (0 + s1.length))) 1 (nI (0 + s1.length + s2.length))) 2 (nI (0 + s1.length + s2.length + s3.length))))]) tx tl)
                refine aw_go 2 rfl ⟨trivial, trivial, trivial⟩ ?_
                refine aw_br (c := ¬ (hdT l3) = (-17)) (fun h26 => ?_) (fun h26 => ?_)
                · skip
                  show aw_W _ _ _ _ (29, [some (.ref 19), none], []) (ae_rd (au σ [(12, nI L0.length), (13, nI (L0.length - l3.length)), (14, nI (0 + s1.length + s2.length + s3.length))]) (au α [(17, rt_1), (18, rp_1), (19, (putL (putL (putL (α 19) 0 s1) (0 + s1.length) s2) (0 + s1.length + s2.length) s3)), (20, (upd (upd (upd (α 20) 0 (nI (0 + s1.length))) 1 (nI (0 + s1.length + s2.length))) 2 (nI (0 + s1.length + s2.length + s3.length))))]) tx tl)
                  refine aw_go 4 rfl ⟨trivial, trivial, trivial, trivial, trivial⟩ ?_
                  refine aw_br (c := ¬ (0 : Int32) = 0) (fun h32 => ?_) (fun h32 => ?_)
                  · skip
                    have h32 := cI_eqF (a := 0) (b := 0) rfl rfl (by omega) (by omega) h32
                    show aw_W _ _ _ _ (38, [some (.ref 19), some (.int 0)], []) (ae_rd (au σ [(12, nI L0.length), (13, nI (L0.length - l3.length)), (14, nI (0 + s1.length + s2.length + s3.length))]) (au α [(17, rt_1), (18, rp_1), (19, (putL (putL (putL (α 19) 0 s1) (0 + s1.length) s2) (0 + s1.length + s2.length) s3)), (20, (upd (upd (upd (α 20) 0 (nI (0 + s1.length))) 1 (nI (0 + s1.length + s2.length))) 2 (nI (0 + s1.length + s2.length + s3.length))))]) tx tl)
                    exact absurd h32 (by decide)
                  · skip
                    have h32 := Classical.not_not.mp h32
                    have h32 := cI_eqT (a := 0) (b := 0) rfl rfl (by omega) (by omega) h32
                    show aw_W _ _ _ _ (33, [some (.ref 19), some (.int 0)], []) (ae_rd (au σ [(12, nI L0.length), (13, nI (L0.length - l3.length)), (14, nI (0 + s1.length + s2.length + s3.length))]) (au α [(17, rt_1), (18, rp_1), (19, (putL (putL (putL (α 19) 0 s1) (0 + s1.length) s2) (0 + s1.length + s2.length) s3)), (20, (upd (upd (upd (α 20) 0 (nI (0 + s1.length))) 1 (nI (0 + s1.length + s2.length))) 2 (nI (0 + s1.length + s2.length + s3.length))))]) tx tl)
                    refine aw_go 5 rfl ⟨trivial, trivial, trivial, trivial, trivial, trivial⟩ ?_
                    show aw_W _ _ _ _ (if (nI (L0.length - l3.length)) < (nI L0.length) then 40 else 38, [some (.ref 19), some (.int 0)], []) (ae_rd (au σ [(12, nI L0.length), (13, nI (L0.length - l3.length)), (14, nI (0 + s1.length + s2.length + s3.length))]) (au α [(17, rt_1), (18, rp_1), (19, (putL (putL (putL (α 19) 0 s1) (0 + s1.length) s2) (0 + s1.length + s2.length) s3)), (20, (upd (upd (upd (α 20) 0 (nI (0 + s1.length))) 1 (nI (0 + s1.length + s2.length))) 2 (nI (0 + s1.length + s2.length + s3.length))))]) tx tl)
                    refine aw_br (c := (nI (L0.length - l3.length)) < (nI L0.length)) (fun h37 => ?_) (fun h37 => ?_)
                    · skip
                      have h37 := cI_ltT (a := L0.length - l3.length) (b := L0.length) rfl rfl (by omega) (by omega) h37
                      show aw_W _ _ _ _ (40, [some (.ref 19), some (.int 0)], []) (ae_rd (au σ [(12, nI L0.length), (13, nI (L0.length - l3.length)), (14, nI (0 + s1.length + s2.length + s3.length))]) (au α [(17, rt_1), (18, rp_1), (19, (putL (putL (putL (α 19) 0 s1) (0 + s1.length) s2) (0 + s1.length + s2.length) s3)), (20, (upd (upd (upd (α 20) 0 (nI (0 + s1.length))) 1 (nI (0 + s1.length + s2.length))) 2 (nI (0 + s1.length + s2.length + s3.length))))]) tx tl)
                      refine aw_go 5 rfl ⟨trivial, trivial, trivial, trivial, (cI_in (a := L0.length - l3.length) rfl (by omega) (by decide)), trivial⟩ ?_
                      show aw_W _ _ _ _ (45, [some (.ref 19), some (.int 0)], [.int (rp_1 (nI (L0.length - l3.length)).toNatClampNeg)]) (ae_rd (au σ [(12, nI L0.length), (13, nI (L0.length - l3.length)), (14, nI (0 + s1.length + s2.length + s3.length))]) (au α [(17, rt_1), (18, rp_1), (19, (putL (putL (putL (α 19) 0 s1) (0 + s1.length) s2) (0 + s1.length + s2.length) s3)), (20, (upd (upd (upd (α 20) 0 (nI (0 + s1.length))) 1 (nI (0 + s1.length + s2.length))) 2 (nI (0 + s1.length + s2.length + s3.length))))]) tx tl)
                      rw [show (nI (L0.length - l3.length)).toNatClampNeg = L0.length - l3.length from cI_cl (a := L0.length - l3.length) rfl (by omega)]
                      refine aw_ret rfl rfl trivial ?_
                      exact ⟨_, _, _, _, _, _, _, congrArg (fun q => some (Value.int q)) v3, rfl, hg3, _, (pH_trans (pH_trans hp1 hp2) hp3)⟩
                    · skip
                      have h37 := cI_ltF (a := L0.length - l3.length) (b := L0.length) rfl rfl (by omega) (by omega) h37
                      show aw_W _ _ _ _ (38, [some (.ref 19), some (.int 0)], []) (ae_rd (au σ [(12, nI L0.length), (13, nI (L0.length - l3.length)), (14, nI (0 + s1.length + s2.length + s3.length))]) (au α [(17, rt_1), (18, rp_1), (19, (putL (putL (putL (α 19) 0 s1) (0 + s1.length) s2) (0 + s1.length + s2.length) s3)), (20, (upd (upd (upd (α 20) 0 (nI (0 + s1.length))) 1 (nI (0 + s1.length + s2.length))) 2 (nI (0 + s1.length + s2.length + s3.length))))]) tx tl)
                      exact absurd h37 (by omega)
                · skip
                  have h26 := Classical.not_not.mp h26
                  show aw_W _ _ _ _ (27, [some (.ref 19), none], []) (ae_rd (au σ [(12, nI L0.length), (13, nI (L0.length - l3.length)), (14, nI (0 + s1.length + s2.length + s3.length))]) (au α [(17, rt_1), (18, rp_1), (19, (putL (putL (putL (α 19) 0 s1) (0 + s1.length) s2) (0 + s1.length + s2.length) s3)), (20, (upd (upd (upd (α 20) 0 (nI (0 + s1.length))) 1 (nI (0 + s1.length + s2.length))) 2 (nI (0 + s1.length + s2.length + s3.length))))]) tx tl)
                  exact absurd h26 f
theorem ev_read_yes {s M : Nat} {zd : Nat} {L0 : ae_TL} (hL : lx (α 16) s 160 0 = L0) (hz : P.2.2 = .null ∨ P.2.2 = .retAddr 700) (hs : (σ 11) = nI s) (hs160 : s ≤ 160) {r0 : ae_TL} {x1 x2 x3 : List Int32} (hpp : pTx M L0 = some (true, r0, x1, x2, x3)) : aw_X P (zd + 62) 69 [.ref 19] (ae_rd σ α tx tl) (fun r H => ∃ (ct av : Int32) (rt rp : Nat → Int32), r = some (.int (-1)) ∧ H = ae_rd (au σ [(12, ct), (13, av), (14, nI (0 + x1.length + x2.length + x3.length))]) (au α [(17, rt), (18, rp), (19, (putL (putL (putL (α 19) 0 x1) (0 + x1.length) x2) (0 + x1.length + x2.length) x3)), (20, (upd (upd (upd (α 20) 0 (nI (0 + x1.length))) 1 (nI (0 + x1.length + x2.length))) 2 (nI (0 + x1.length + x2.length + x3.length))))]) tx tl ∧ dOk x1 0 1 ∧ dOk x2 0 1 ∧ dOk x3 0 1 ∧ x1.length + x2.length + x3.length ≤ 160) := by
  have hln : L0.length ≤ 161 := by rw [← hL]; exact lx_len (α 16) s 160 0
  have hg0 : gL L0 := by rw [← hL]; exact lx_gL (α 16) s 160 0
  have hl0 := gL_pos hg0
  refine aw_ev (cd := cd_Reader_read) rfl rfl rfl ?_
  unfold pTx at hpp
  rcases h1 : pPt M (-13) L0 with _ | ⟨b1, l1, s1⟩
  · rw [h1] at hpp
    cases hpp
  cases b1 with
  | false =>
    rw [h1] at hpp
    cases hpp
  | true =>
    rw [h1] at hpp
    dsimp only at hpp
    rcases h2 : pPt M (-14) l1 with _ | ⟨b2, l2, s2⟩
    · rw [h2] at hpp
      cases hpp
    cases b2 with
    | false =>
      rw [h2] at hpp
      cases hpp
    | true =>
      rw [h2] at hpp
      dsimp only at hpp
      rcases h3 : pPt M (-15) l2 with _ | ⟨b3, l3, s3⟩
      · rw [h3] at hpp
        cases hpp
      cases b3 with
      | false =>
        rw [h3] at hpp
        cases hpp
      | true =>
        rw [h3] at hpp
        dsimp only at hpp
        by_cases f : hdT l3 = -17
        · replace hpp : (if hdT l3 = -17 then some (true, l3, s1, s2, s3) else some (false, l3, [], [], [])) = some (true, r0, x1, x2, x3) := hpp
          rw [if_pos f] at hpp
          obtain ⟨e0, e1, e2, e3⟩ : l3 = r0 ∧ s1 = x1 ∧ s2 = x2 ∧ s3 = x3 := by cases hpp; exact ⟨rfl, rfl, rfl, rfl⟩
          subst e0 e1 e2 e3
          have hh1 := pPt_pH (by decide) h1
          have hp1 := hh1.1
          have hq1 := hp1.1
          have hg1 := hp1.2.1 hg0
          have hl1 := gL_pos hg1
          have hh2 := pPt_pH (by decide) h2
          have hp2 := hh2.1
          have hq2 := hp2.1
          have hg2 := hp2.2.1 hg1
          have hl2 := gL_pos hg2
          have hh3 := pPt_pH (by decide) h3
          have hp3 := hh3.1
          have hq3 := hp3.1
          have hg3 := hp3.2.1 hg2
          have hl3 := gL_pos hg3
          show aw_W _ _ _ _ (0, [some (.ref 19), none], []) (ae_rd σ α tx tl)
          refine aw_go 1 rfl ⟨trivial, trivial⟩ ?_
          refine aw_call rfl rfl (ev_splitL  hL hz hs hs160) ?_
          rintro _ _ ⟨rt_1, rp_1, rfl, rfl, hT_1⟩
          show aw_W _ _ _ _ (2, [some (.ref 19), none], []) (ae_rd (au σ [(12, nI L0.length)]) (au α [(17, rt_1), (18, rp_1)]) tx tl)
          refine aw_go 9 rfl ⟨trivial, trivial, trivial, trivial, trivial, trivial, trivial, trivial, trivial, trivial⟩ ?_
          show aw_W _ _ _ _ (11, [some (.ref 19), none], [.int 0, .int (-13), .ref 19]) (ae_rd (au σ [(12, nI L0.length), (13, 0), (14, 0)]) (au α [(17, rt_1), (18, rp_1)]) tx tl)
          refine aw_call rfl rfl (ev_part (σ := au σ [(12, nI L0.length)]) (α := au α [(17, rt_1), (18, rp_1)]) (R := (true, l1, s1)) (a := 0) (c := 0) (S := (α 19)) (E := (α 20)) (l := L0) (cnt := L0.length) (M := M) (key := (-13)) (q := 0) rfl hln h1 (by decide) (by decide) hT_1 hg0 (by omega) (by omega)) ?_
          rintro _ _ ⟨c2_11, S2_11, E2_11, rfl, rfl, hb_11⟩
          show aw_W _ _ _ _ (12, [some (.ref 19), none], [.int 1]) (ae_rd (au σ [(12, nI L0.length), (13, nI (L0.length - l1.length)), (14, c2_11)]) (au α [(17, rt_1), (18, rp_1), (19, S2_11), (20, E2_11)]) tx tl)
          obtain ⟨rfl, rfl, rfl⟩ := hb_11 rfl
          obtain ⟨k1, m1⟩ := tk_rest (cnt := L0.length) hT_1 (by omega) hp1
          obtain ⟨u1, v1, -⟩ := tk_hd k1 hg1
          refine aw_go 1 rfl ⟨trivial, trivial⟩ ?_
          refine aw_br (c := (1 : Int32) = 0) (fun h12 => ?_) (fun h12 => ?_)
          · skip
            have h12 := cI_eqT (a := 1) (b := 0) rfl rfl (by omega) (by omega) h12
            show aw_W _ _ _ _ (29, [some (.ref 19), none], []) (ae_rd (au σ [(12, nI L0.length), (13, nI (L0.length - l1.length)), (14, nI (0 + s1.length))]) (au α [(17, rt_1), (18, rp_1), (19, (putL (α 19) 0 s1)), (20, (upd (α 20) 0 (nI (0 + s1.length))))]) tx tl)
            exact absurd h12 (by decide)
          · skip
            have h12 := cI_eqF (a := 1) (b := 0) rfl rfl (by omega) (by omega) h12
            show aw_W _ _ _ _ (13, [some (.ref 19), none], []) (ae_rd (au σ [(12, nI L0.length), (13, nI (L0.length - l1.length)), (14, nI (0 + s1.length))]) (au α [(17, rt_1), (18, rp_1), (19, (putL (α 19) 0 s1)), (20, (upd (α 20) 0 (nI (0 + s1.length))))]) tx tl)
            refine aw_go 3 rfl ⟨trivial, trivial, trivial, trivial⟩ ?_
            refine aw_call rfl rfl (ev_part (σ := au σ [(12, nI L0.length)]) (α := au α [(17, rt_1), (18, rp_1)]) (R := (true, l2, s2)) (a := (L0.length - l1.length)) (c := (0 + s1.length)) (S := (putL (α 19) 0 s1)) (E := (upd (α 20) 0 (nI (0 + s1.length)))) (l := l1) (cnt := L0.length) (M := M) (key := (-14)) (q := 1) rfl hln h2 (by decide) (by decide) k1 hg1 (by omega) (by omega)) ?_
            rintro _ _ ⟨c2_16, S2_16, E2_16, rfl, rfl, hb_16⟩
            show aw_W _ _ _ _ (17, [some (.ref 19), none], [.int 1]) (ae_rd (au σ [(12, nI L0.length), (13, nI (L0.length - l2.length)), (14, c2_16)]) (au α [(17, rt_1), (18, rp_1), (19, S2_16), (20, E2_16)]) tx tl)
            obtain ⟨rfl, rfl, rfl⟩ := hb_16 rfl
            obtain ⟨k2, m2⟩ := tk_rest (cnt := L0.length) k1 (by omega) hp2
            obtain ⟨u2, v2, -⟩ := tk_hd k2 hg2
            refine aw_go 1 rfl ⟨trivial, trivial⟩ ?_
            refine aw_br (c := (1 : Int32) = 0) (fun h17 => ?_) (fun h17 => ?_)
            · skip
              have h17 := cI_eqT (a := 1) (b := 0) rfl rfl (by omega) (by omega) h17
              show aw_W _ _ _ _ (29, [some (.ref 19), none], []) (ae_rd (au σ [(12, nI L0.length), (13, nI (L0.length - l2.length)), (14, nI (0 + s1.length + s2.length))]) (au α [(17, rt_1), (18, rp_1), (19, (putL (putL (α 19) 0 s1) (0 + s1.length) s2)), (20, (upd (upd (α 20) 0 (nI (0 + s1.length))) 1 (nI (0 + s1.length + s2.length))))]) tx tl)
              exact absurd h17 (by decide)
            · skip
              have h17 := cI_eqF (a := 1) (b := 0) rfl rfl (by omega) (by omega) h17
              show aw_W _ _ _ _ (18, [some (.ref 19), none], []) (ae_rd (au σ [(12, nI L0.length), (13, nI (L0.length - l2.length)), (14, nI (0 + s1.length + s2.length))]) (au α [(17, rt_1), (18, rp_1), (19, (putL (putL (α 19) 0 s1) (0 + s1.length) s2)), (20, (upd (upd (α 20) 0 (nI (0 + s1.length))) 1 (nI (0 + s1.length + s2.length))))]) tx tl)
              refine aw_go 3 rfl ⟨trivial, trivial, trivial, trivial⟩ ?_
              refine aw_call rfl rfl (ev_part (σ := au σ [(12, nI L0.length)]) (α := au α [(17, rt_1), (18, rp_1)]) (R := (true, l3, s3)) (a := (L0.length - l2.length)) (c := (0 + s1.length + s2.length)) (S := (putL (putL (α 19) 0 s1) (0 + s1.length) s2)) (E := (upd (upd (α 20) 0 (nI (0 + s1.length))) 1 (nI (0 + s1.length + s2.length)))) (l := l2) (cnt := L0.length) (M := M) (key := (-15)) (q := 2) rfl hln h3 (by decide) (by decide) k2 hg2 (by omega) (by omega)) ?_
              rintro _ _ ⟨c2_21, S2_21, E2_21, rfl, rfl, hb_21⟩
              show aw_W _ _ _ _ (22, [some (.ref 19), none], [.int 1]) (ae_rd (au σ [(12, nI L0.length), (13, nI (L0.length - l3.length)), (14, c2_21)]) (au α [(17, rt_1), (18, rp_1), (19, S2_21), (20, E2_21)]) tx tl)
              obtain ⟨rfl, rfl, rfl⟩ := hb_21 rfl
              obtain ⟨k3, m3⟩ := tk_rest (cnt := L0.length) k2 (by omega) hp3
              obtain ⟨u3, v3, -⟩ := tk_hd k3 hg3
              refine aw_go 1 rfl ⟨trivial, trivial⟩ ?_
              refine aw_br (c := (1 : Int32) = 0) (fun h22 => ?_) (fun h22 => ?_)
              · skip
                have h22 := cI_eqT (a := 1) (b := 0) rfl rfl (by omega) (by omega) h22
                show aw_W _ _ _ _ (29, [some (.ref 19), none], []) (ae_rd (au σ [(12, nI L0.length), (13, nI (L0.length - l3.length)), (14, nI (0 + s1.length + s2.length + s3.length))]) (au α [(17, rt_1), (18, rp_1), (19, (putL (putL (putL (α 19) 0 s1) (0 + s1.length) s2) (0 + s1.length + s2.length) s3)), (20, (upd (upd (upd (α 20) 0 (nI (0 + s1.length))) 1 (nI (0 + s1.length + s2.length))) 2 (nI (0 + s1.length + s2.length + s3.length))))]) tx tl)
                exact absurd h22 (by decide)
              · skip
                have h22 := cI_eqF (a := 1) (b := 0) rfl rfl (by omega) (by omega) h22
                show aw_W _ _ _ _ (23, [some (.ref 19), none], []) (ae_rd (au σ [(12, nI L0.length), (13, nI (L0.length - l3.length)), (14, nI (0 + s1.length + s2.length + s3.length))]) (au α [(17, rt_1), (18, rp_1), (19, (putL (putL (putL (α 19) 0 s1) (0 + s1.length) s2) (0 + s1.length + s2.length) s3)), (20, (upd (upd (upd (α 20) 0 (nI (0 + s1.length))) 1 (nI (0 + s1.length + s2.length))) 2 (nI (0 + s1.length + s2.length + s3.length))))]) tx tl)
                refine aw_go 1 rfl ⟨trivial, trivial⟩ ?_
                refine aw_callE rfl rfl (ev_Reader_token  (a := L0.length - l3.length) (cnt := L0.length) rfl rfl (by omega) hln u3) ?_
                show aw_W _ _ _ _ (25, [some (.ref 19), none], [.int (hdT l3)]) (ae_rd (au σ [(12, nI L0.length), (13, nI (L0.length - l3.length)), (14, nI (0 + s1.length + s2.length + s3.length))]) (au α [(17, rt_1), (18, rp_1), (19, (putL (putL (putL (α 19) 0 s1) (0 + s1.length) s2) (0 + s1.length + s2.length) s3)), (20, (upd (upd (upd (α 20) 0 (nI (0 + s1.length))) 1 (nI (0 + s1.length + s2.length))) 2 (nI (0 + s1.length + s2.length + s3.length))))]) tx tl)
                refine aw_go 2 rfl ⟨trivial, trivial, trivial⟩ ?_
                refine aw_br (c := ¬ (hdT l3) = (-17)) (fun h26 => ?_) (fun h26 => ?_)
                · skip
                  show aw_W _ _ _ _ (29, [some (.ref 19), none], []) (ae_rd (au σ [(12, nI L0.length), (13, nI (L0.length - l3.length)), (14, nI (0 + s1.length + s2.length + s3.length))]) (au α [(17, rt_1), (18, rp_1), (19, (putL (putL (putL (α 19) 0 s1) (0 + s1.length) s2) (0 + s1.length + s2.length) s3)), (20, (upd (upd (upd (α 20) 0 (nI (0 + s1.length))) 1 (nI (0 + s1.length + s2.length))) 2 (nI (0 + s1.length + s2.length + s3.length))))]) tx tl)
                  exact absurd f h26
                · skip
                  have h26 := Classical.not_not.mp h26
                  show aw_W _ _ _ _ (27, [some (.ref 19), none], []) (ae_rd (au σ [(12, nI L0.length), (13, nI (L0.length - l3.length)), (14, nI (0 + s1.length + s2.length + s3.length))]) (au α [(17, rt_1), (18, rp_1), (19, (putL (putL (putL (α 19) 0 s1) (0 + s1.length) s2) (0 + s1.length + s2.length) s3)), (20, (upd (upd (upd (α 20) 0 (nI (0 + s1.length))) 1 (nI (0 + s1.length + s2.length))) 2 (nI (0 + s1.length + s2.length + s3.length))))]) tx tl)
                  refine aw_go 5 rfl ⟨trivial, trivial, trivial, trivial, trivial, trivial⟩ ?_
                  refine aw_br (c := ¬ (1 : Int32) = 0) (fun h32 => ?_) (fun h32 => ?_)
                  · skip
                    have h32 := cI_eqF (a := 1) (b := 0) rfl rfl (by omega) (by omega) h32
                    show aw_W _ _ _ _ (38, [some (.ref 19), some (.int 1)], []) (ae_rd (au σ [(12, nI L0.length), (13, nI (L0.length - l3.length)), (14, nI (0 + s1.length + s2.length + s3.length))]) (au α [(17, rt_1), (18, rp_1), (19, (putL (putL (putL (α 19) 0 s1) (0 + s1.length) s2) (0 + s1.length + s2.length) s3)), (20, (upd (upd (upd (α 20) 0 (nI (0 + s1.length))) 1 (nI (0 + s1.length + s2.length))) 2 (nI (0 + s1.length + s2.length + s3.length))))]) tx tl)
                    refine aw_go 2 rfl ⟨trivial, trivial, trivial⟩ ?_
                    refine aw_ret rfl rfl trivial ?_
                    exact ⟨_, _, _, _, rfl, rfl, (hh1.2 rfl).1, (hh2.2 rfl).1, (hh3.2 rfl).1, by have := (hh1.2 rfl).2.1; have := (hh2.2 rfl).2.1; have := (hh3.2 rfl).2.1; omega⟩
                  · skip
                    have h32 := Classical.not_not.mp h32
                    have h32 := cI_eqT (a := 1) (b := 0) rfl rfl (by omega) (by omega) h32
                    show aw_W _ _ _ _ (33, [some (.ref 19), some (.int 1)], []) (ae_rd (au σ [(12, nI L0.length), (13, nI (L0.length - l3.length)), (14, nI (0 + s1.length + s2.length + s3.length))]) (au α [(17, rt_1), (18, rp_1), (19, (putL (putL (putL (α 19) 0 s1) (0 + s1.length) s2) (0 + s1.length + s2.length) s3)), (20, (upd (upd (upd (α 20) 0 (nI (0 + s1.length))) 1 (nI (0 + s1.length + s2.length))) 2 (nI (0 + s1.length + s2.length + s3.length))))]) tx tl)
                    exact absurd h32 (by decide)
        · replace hpp : (if hdT l3 = -17 then some (true, l3, s1, s2, s3) else some (false, l3, [], [], [])) = some (true, r0, x1, x2, x3) := hpp
          rw [if_neg f] at hpp
          cases hpp
end L38
