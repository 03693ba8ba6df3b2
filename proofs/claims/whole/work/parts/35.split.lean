/-! the tape is split (class) -/
theorem lx_pos (f : Nat → Int32) (s : Nat) : ∀ (m p : Nat), 1 ≤ (lx f s m p).length
  | 0, p => Nat.le_refl 1
  | m + 1, p => by
    unfold lx
    split
    · split
      · exact lx_pos f s m (p + 1)
      · split
        · rw [List.length_cons]; omega
        · split
          · rw [List.length_cons]; omega
          · rw [List.length_cons]; omega
    · exact Nat.le_refl 1
theorem lx_end {f : Nat → Int32} {s m p : Nat} (h : s ≤ p) : lx f s m p = [(-17, s)] := by
  cases m with
  | zero => rfl
  | succ m => exact if_neg (by omega)
theorem tkA_snoc {r q : Nat → Int32} {l : List (Int32 × Nat)} {t : Int32} {p : Nat} (h : tkA r q 0 l) : tkA (upd r l.length t) (upd q l.length (nI p)) 0 (l ++ [(t, p)]) := by
  rw [tkA_app]
  refine ⟨tkA_upd (by omega) h, ?_, ?_, trivial⟩
  · rw [Nat.zero_add]; exact upd_eq _ _ _
  · rw [Nat.zero_add]; exact upd_eq _ _ _
theorem lx_sp {f : Nat → Int32} {s m p : Nat} (h : p < s) (hb : f p = 32 ∨ f p = 10) : lx f s (m + 1) p = lx f s m (p + 1) := by rw [lx, if_pos h, if_pos hb]
theorem lx_nu {f : Nat → Int32} {s m p : Nat} (h : p < s) (hb : ¬ (f p = 32 ∨ f p = 10)) (hd : isD (f p)) : lx f s (m + 1) p = (tkN f p (rE (fun b => decide (isD b)) f s 160 p), p) :: lx f s m (rE (fun b => decide (isD b)) f s 160 p) := by rw [lx, if_pos h, if_neg hb, if_pos hd]
theorem lx_wo {f : Nat → Int32} {s m p : Nat} (h : p < s) (hb : ¬ (f p = 32 ∨ f p = 10)) (hd : ¬ isD (f p)) (hl : isL (f p)) : lx f s (m + 1) p = (tW f p (rE (fun b => decide (isL b)) f s 160 p - p), p) :: lx f s m (rE (fun b => decide (isL b)) f s 160 p) := by rw [lx, if_pos h, if_neg hb, if_neg hd, if_pos hl]
theorem lx_si {f : Nat → Int32} {s m p : Nat} (h : p < s) (hb : ¬ (f p = 32 ∨ f p = 10)) (hd : ¬ isD (f p)) (hl : ¬ isL (f p)) : lx f s (m + 1) p = (tSg (f p), p) :: lx f s m (p + 1) := by rw [lx, if_pos h, if_neg hb, if_neg hd, if_neg hl]
section L35
variable {P : ae_P} {σ : Nat → Int32} {α : Nat → Nat → Int32} {tx : Nat → Option Nat} {tl : List va_E}

theorem lp_split {zd : Nat} {s : Nat} {rt rp : Nat → Int32} {d : List (Int32 × Nat)} {l3 l4 : Option Value} (hz : P.2.2 = .null ∨ P.2.2 = .retAddr 700) (hs : (σ 11) = nI s) (hs160 : s ≤ 160) (m p i : Nat) (hi : m + i = 160) (hp : p ≤ s) (hm : s - p ≤ m) (hT : tkA rt rp 0 d) (hl : d ++ lx (α 16) s m p = (lx (α 16) s 160 0)) : aw_W P (zd + 6) cd_Reader_split (fun r H => ∃ (rt : Nat → Int32) (rp : Nat → Int32), r = none ∧ H = (ae_rd (au σ [(12, nI (lx (α 16) s 160 0).length)]) (au α [(17, rt), (18, rp)]) tx tl) ∧ tkA rt rp 0 (lx (α 16) s 160 0)) (7, [some (.ref 19), some (.int (nI p)), some (.int (nI i)), l3, l4], []) (ae_rd (au σ [(12, nI d.length)]) (au α [(17, rt), (18, rp)]) tx tl) := by
  have hln := lx_len (α 16) s 160 0
  rw [← hl, List.length_append] at hln
  have hps := lx_pos (α 16) s m p
  refine aw_go 3 rfl ⟨trivial, trivial, trivial, trivial⟩ ?_
  refine aw_br (c := (160 : Int32) ≤ (nI i)) (fun h9 => ?_) (fun h9 => ?_)
  · skip
    have h9 := cI_leT (a := 160) (b := i) rfl rfl (by omega) (by omega) h9
    show aw_W _ _ _ _ (77, [some (.ref 19), some (.int (nI p)), some (.int (nI i)), l3, l4], []) (ae_rd (au σ [(12, nI d.length)]) (au α [(17, rt), (18, rp)]) tx tl)
    rw [lx_end (by omega)] at hl
    refine aw_go 4 rfl ⟨trivial, trivial, trivial, trivial, trivial⟩ ?_
    show aw_W _ _ _ _ (81, [some (.ref 19), some (.int (nI p)), some (.int (nI i)), l3, l4], [.int (σ 11), .int (-17), .ref 19]) (ae_rd (au σ [(12, nI d.length)]) (au α [(17, rt), (18, rp)]) tx tl)
    rw [show σ 11 = nI s from hs]
    refine aw_call rfl rfl (ev_Reader_addToken (t := (-17)) (p := s) rfl (by omega)) ?_
    rintro _ _ ⟨rfl, rfl⟩
    show aw_W _ _ _ _ (82, [some (.ref 19), some (.int (nI p)), some (.int (nI i)), l3, l4], []) (ae_rd (au σ [(12, nI (d.length + 1))]) (au α [(17, upd rt d.length (-17)), (18, upd rp d.length (nI s))]) tx tl)
    refine aw_ret rfl rfl trivial ?_
    have hT2 := tkA_snoc (t := -17) (p := s) hT
    rw [hl] at hT2
    exact ⟨_, _, rfl, by rw [← hl, List.length_append]; rfl, hT2⟩
  · skip
    have h9 := cI_leF (a := 160) (b := i) rfl rfl (by omega) (by omega) h9
    show aw_W _ _ _ _ (10, [some (.ref 19), some (.int (nI p)), some (.int (nI i)), l3, l4], []) (ae_rd (au σ [(12, nI d.length)]) (au α [(17, rt), (18, rp)]) tx tl)
    refine aw_go 4 rfl ⟨trivial, trivial, trivial, trivial, trivial⟩ ?_
    show aw_W _ _ _ _ (if (σ 11) ≤ (nI p) then 77 else 14, [some (.ref 19), some (.int (nI p)), some (.int (nI i)), l3, l4], []) (ae_rd (au σ [(12, nI d.length)]) (au α [(17, rt), (18, rp)]) tx tl)
    refine aw_br (c := (σ 11) ≤ (nI p)) (fun h13 => ?_) (fun h13 => ?_)
    · skip
      have h13 := cI_leT (a := s) (b := p) hs rfl (by omega) (by omega) h13
      show aw_W _ _ _ _ (77, [some (.ref 19), some (.int (nI p)), some (.int (nI i)), l3, l4], []) (ae_rd (au σ [(12, nI d.length)]) (au α [(17, rt), (18, rp)]) tx tl)
      rw [lx_end (by omega)] at hl
      refine aw_go 4 rfl ⟨trivial, trivial, trivial, trivial, trivial⟩ ?_
      show aw_W _ _ _ _ (81, [some (.ref 19), some (.int (nI p)), some (.int (nI i)), l3, l4], [.int (σ 11), .int (-17), .ref 19]) (ae_rd (au σ [(12, nI d.length)]) (au α [(17, rt), (18, rp)]) tx tl)
      rw [show σ 11 = nI s from hs]
      refine aw_call rfl rfl (ev_Reader_addToken (t := (-17)) (p := s) rfl (by omega)) ?_
      rintro _ _ ⟨rfl, rfl⟩
      show aw_W _ _ _ _ (82, [some (.ref 19), some (.int (nI p)), some (.int (nI i)), l3, l4], []) (ae_rd (au σ [(12, nI (d.length + 1))]) (au α [(17, upd rt d.length (-17)), (18, upd rp d.length (nI s))]) tx tl)
      refine aw_ret rfl rfl trivial ?_
      have hT2 := tkA_snoc (t := -17) (p := s) hT
      rw [hl] at hT2
      exact ⟨_, _, rfl, by rw [← hl, List.length_append]; rfl, hT2⟩
    · skip
      have h13 := cI_leF (a := s) (b := p) hs rfl (by omega) (by omega) h13
      show aw_W _ _ _ _ (14, [some (.ref 19), some (.int (nI p)), some (.int (nI i)), l3, l4], []) (ae_rd (au σ [(12, nI d.length)]) (au α [(17, rt), (18, rp)]) tx tl)
      obtain ⟨m, rfl⟩ : ∃ r, m = r + 1 := ⟨m - 1, by omega⟩
      refine aw_go 8 rfl ⟨trivial, trivial, trivial, (cI_in (a := p) rfl (by omega) (by decide)), trivial, trivial, trivial, trivial, trivial⟩ ?_
      show aw_W _ _ _ _ (if (α 16 (nI p).toNatClampNeg) = 32 then 25 else 22, [some (.ref 19), some (.int (nI p)), some (.int (nI i)), some (.int (α 16 (nI p).toNatClampNeg)), l4], []) (ae_rd (au σ [(12, nI d.length)]) (au α [(17, rt), (18, rp)]) tx tl)
      rw [show (nI p).toNatClampNeg = p from cI_cl (a := p) rfl (by omega)]
      refine aw_br (c := (α 16 p) = 32) (fun h21 => ?_) (fun h21 => ?_)
      · skip
        show aw_W _ _ _ _ (25, [some (.ref 19), some (.int (nI p)), some (.int (nI i)), some (.int (α 16 p)), l4], []) (ae_rd (au σ [(12, nI d.length)]) (au α [(17, rt), (18, rp)]) tx tl)
        refine aw_go 4 rfl ⟨trivial, trivial, trivial, trivial, trivial⟩ ?_
        show aw_W _ _ _ _ (7, [some (.ref 19), some (.int ((nI p) + 1)), some (.int ((nI i) + 1)), some (.int (α 16 p)), l4], []) (ae_rd (au σ [(12, nI d.length)]) (au α [(17, rt), (18, rp)]) tx tl)
        rw [show (nI p) + 1 = nI (p + 1) from (cI_add (a := p) (b := 1) rfl rfl)]
        rw [show (nI i) + 1 = nI (i + 1) from (cI_add (a := i) (b := 1) rfl rfl)]
        rw [lx_sp h13 (Or.inl h21)] at hl
        exact lp_split hz hs hs160 m (p + 1) (i + 1) (by omega) (by omega) (by omega) hT hl
      · skip
        show aw_W _ _ _ _ (22, [some (.ref 19), some (.int (nI p)), some (.int (nI i)), some (.int (α 16 p)), l4], []) (ae_rd (au σ [(12, nI d.length)]) (au α [(17, rt), (18, rp)]) tx tl)
        refine aw_go 3 rfl ⟨trivial, trivial, trivial, trivial⟩ ?_
        refine aw_br (c := ¬ (α 16 p) = 10) (fun h24 => ?_) (fun h24 => ?_)
        · skip
          show aw_W _ _ _ _ (27, [some (.ref 19), some (.int (nI p)), some (.int (nI i)), some (.int (α 16 p)), l4], []) (ae_rd (au σ [(12, nI d.length)]) (au α [(17, rt), (18, rp)]) tx tl)
          refine aw_go 1 rfl ⟨trivial, trivial⟩ ?_
          refine aw_callE rfl rfl (ev_Reader_isDigit (b := (α 16 p))) ?_
          show aw_W _ _ _ _ (29, [some (.ref 19), some (.int (nI p)), some (.int (nI i)), some (.int (α 16 p)), l4], [.int (bI (isD (α 16 p)))]) (ae_rd (au σ [(12, nI d.length)]) (au α [(17, rt), (18, rp)]) tx tl)
          refine aw_go 1 rfl ⟨trivial, trivial⟩ ?_
          refine aw_br (c := (bI (isD (α 16 p))) = 0) (fun h29 => ?_) (fun h29 => ?_)
          · skip
            have h29 := bI_f h29
            show aw_W _ _ _ _ (51, [some (.ref 19), some (.int (nI p)), some (.int (nI i)), some (.int (α 16 p)), l4], []) (ae_rd (au σ [(12, nI d.length)]) (au α [(17, rt), (18, rp)]) tx tl)
            refine aw_go 1 rfl ⟨trivial, trivial⟩ ?_
            refine aw_callE rfl rfl (ev_Reader_isLetter (b := (α 16 p))) ?_
            show aw_W _ _ _ _ (53, [some (.ref 19), some (.int (nI p)), some (.int (nI i)), some (.int (α 16 p)), l4], [.int (bI (isL (α 16 p)))]) (ae_rd (au σ [(12, nI d.length)]) (au α [(17, rt), (18, rp)]) tx tl)
            refine aw_go 1 rfl ⟨trivial, trivial⟩ ?_
            refine aw_br (c := (bI (isL (α 16 p))) = 0) (fun h53 => ?_) (fun h53 => ?_)
            · skip
              have h53 := bI_f h53
              show aw_W _ _ _ _ (69, [some (.ref 19), some (.int (nI p)), some (.int (nI i)), some (.int (α 16 p)), l4], []) (ae_rd (au σ [(12, nI d.length)]) (au α [(17, rt), (18, rp)]) tx tl)
              rw [lx_si h13 (fun q => q.elim h21 h24) h29 h53, List.append_cons] at hl
              refine aw_go 2 rfl ⟨trivial, trivial, trivial⟩ ?_
              refine aw_callE rfl rfl (ev_Token_ofSign (b := (α 16 p))) ?_
              show aw_W _ _ _ _ (72, [some (.ref 19), some (.int (nI p)), some (.int (nI i)), some (.int (α 16 p)), l4], [.int (tSg (α 16 p)), .ref 19]) (ae_rd (au σ [(12, nI d.length)]) (au α [(17, rt), (18, rp)]) tx tl)
              refine aw_go 1 rfl ⟨trivial, trivial⟩ ?_
              refine aw_call rfl rfl (ev_Reader_addToken (t := (tSg (α 16 p))) (p := p) rfl (by omega)) ?_
              rintro _ _ ⟨rfl, rfl⟩
              show aw_W _ _ _ _ (74, [some (.ref 19), some (.int (nI p)), some (.int (nI i)), some (.int (α 16 p)), l4], []) (ae_rd (au σ [(12, nI (d.length + 1))]) (au α [(17, upd rt d.length (tSg (α 16 p))), (18, upd rp d.length (nI p))]) tx tl)
              refine aw_go 3 rfl ⟨trivial, trivial, trivial, trivial⟩ ?_
              show aw_W _ _ _ _ (7, [some (.ref 19), some (.int ((nI p) + 1)), some (.int ((nI i) + 1)), some (.int (α 16 p)), l4], []) (ae_rd (au σ [(12, nI (d.length + 1))]) (au α [(17, upd rt d.length (tSg (α 16 p))), (18, upd rp d.length (nI p))]) tx tl)
              rw [show (nI p) + 1 = nI (p + 1) from (cI_add (a := p) (b := 1) rfl rfl)]
              rw [show (nI i) + 1 = nI (i + 1) from (cI_add (a := i) (b := 1) rfl rfl)]
              exact aw_to (lp_split hz hs hs160 m (p + 1) (i + 1) (by omega) (by omega) (by omega) (tkA_snoc hT) hl) rfl (by rw [List.length_append]; rfl)
            · skip
              have h53 := bI_t h53
              show aw_W _ _ _ _ (54, [some (.ref 19), some (.int (nI p)), some (.int (nI i)), some (.int (α 16 p)), l4], []) (ae_rd (au σ [(12, nI d.length)]) (au α [(17, rt), (18, rp)]) tx tl)
              refine aw_go 2 rfl ⟨trivial, trivial, trivial⟩ ?_
              refine aw_callE rfl rfl (ev_Reader_endOfWord (p := p) hs hs160 (by omega)) ?_
              show aw_W _ _ _ _ (57, [some (.ref 19), some (.int (nI p)), some (.int (nI i)), some (.int (α 16 p)), l4], [.int (nI (rE (fun b => decide (isL b)) (α 16) s 160 p))]) (ae_rd (au σ [(12, nI d.length)]) (au α [(17, rt), (18, rp)]) tx tl)
              rw [lx_wo h13 (fun q => q.elim h21 h24) h29 h53] at hl
              have hg := rE_gt (c := fun b => decide (isL b)) (f := (α 16)) (s := s) (p := p) (m := 159) h13 (decide_eq_true h53)
              have hg2 := rE_le (fun b => decide (isL b)) (α 16) s 160 p (by omega)
              generalize rE (fun b => decide (isL b)) (α 16) s 160 p = e at hl hg hg2 ⊢
              rw [List.append_cons] at hl
              refine aw_go 6 rfl ⟨trivial, trivial, trivial, trivial, trivial, trivial, trivial⟩ ?_
              show aw_W _ _ _ _ (63, [some (.ref 19), some (.int (nI p)), some (.int (nI i)), some (.int (α 16 p)), some (.int (nI e))], [.int (nI e), .int (nI p), .ref 20, .ref 19]) (ae_rd (au σ [(12, nI d.length)]) (au α [(17, rt), (18, rp)]) tx tl)
              refine aw_callE rfl rfl (ev_Token_ofWord (p := p) (e := e) hz (by omega) (by omega)) ?_
              show aw_W _ _ _ _ (64, [some (.ref 19), some (.int (nI p)), some (.int (nI i)), some (.int (α 16 p)), some (.int (nI e))], [.int (tW (α 16) p (e - p)), .ref 19]) (ae_rd (au σ [(12, nI d.length)]) (au α [(17, rt), (18, rp)]) tx tl)
              refine aw_go 1 rfl ⟨trivial, trivial⟩ ?_
              refine aw_call rfl rfl (ev_Reader_addToken (t := (tW (α 16) p (e - p))) (p := p) rfl (by omega)) ?_
              rintro _ _ ⟨rfl, rfl⟩
              show aw_W _ _ _ _ (66, [some (.ref 19), some (.int (nI p)), some (.int (nI i)), some (.int (α 16 p)), some (.int (nI e))], []) (ae_rd (au σ [(12, nI (d.length + 1))]) (au α [(17, upd rt d.length (tW (α 16) p (e - p))), (18, upd rp d.length (nI p))]) tx tl)
              refine aw_go 5 rfl ⟨trivial, trivial, trivial, trivial, trivial, trivial⟩ ?_
              show aw_W _ _ _ _ (7, [some (.ref 19), some (.int (nI e)), some (.int ((nI i) + 1)), some (.int (α 16 p)), some (.int (nI e))], []) (ae_rd (au σ [(12, nI (d.length + 1))]) (au α [(17, upd rt d.length (tW (α 16) p (e - p))), (18, upd rp d.length (nI p))]) tx tl)
              rw [show (nI i) + 1 = nI (i + 1) from (cI_add (a := i) (b := 1) rfl rfl)]
              exact aw_to (lp_split hz hs hs160 m e (i + 1) (by omega) (by omega) (by omega) (tkA_snoc hT) hl) rfl (by rw [List.length_append]; rfl)
          · skip
            have h29 := bI_t h29
            show aw_W _ _ _ _ (30, [some (.ref 19), some (.int (nI p)), some (.int (nI i)), some (.int (α 16 p)), l4], []) (ae_rd (au σ [(12, nI d.length)]) (au α [(17, rt), (18, rp)]) tx tl)
            refine aw_go 2 rfl ⟨trivial, trivial, trivial⟩ ?_
            refine aw_callE rfl rfl (ev_Reader_endOfNumber (p := p) hs hs160 (by omega)) ?_
            show aw_W _ _ _ _ (33, [some (.ref 19), some (.int (nI p)), some (.int (nI i)), some (.int (α 16 p)), l4], [.int (nI (rE (fun b => decide (isD b)) (α 16) s 160 p))]) (ae_rd (au σ [(12, nI d.length)]) (au α [(17, rt), (18, rp)]) tx tl)
            rw [lx_nu h13 (fun q => q.elim h21 h24) h29] at hl
            have hg := rE_gt (c := fun b => decide (isD b)) (f := (α 16)) (s := s) (p := p) (m := 159) h13 (decide_eq_true h29)
            have hg2 := rE_le (fun b => decide (isD b)) (α 16) s 160 p (by omega)
            generalize rE (fun b => decide (isD b)) (α 16) s 160 p = e at hl hg hg2 ⊢
            rw [List.append_cons] at hl
            refine aw_go 7 rfl ⟨trivial, trivial, trivial, trivial, trivial, trivial, trivial, trivial⟩ ?_
            show aw_W _ _ _ _ (if ((nI e) - (nI p)) ≤ 4 then 42 else 40, [some (.ref 19), some (.int (nI p)), some (.int (nI i)), some (.int (α 16 p)), some (.int (nI e))], [.ref 19]) (ae_rd (au σ [(12, nI d.length)]) (au α [(17, rt), (18, rp)]) tx tl)
            refine aw_br (c := ((nI e) - (nI p)) ≤ 4) (fun h39 => ?_) (fun h39 => ?_)
            · skip
              have h39 := cI_leT (a := e - p) (b := 4) (cI_sub (a := e) (b := p) rfl rfl (by omega)) rfl (by omega) (by omega) h39
              show aw_W _ _ _ _ (42, [some (.ref 19), some (.int (nI p)), some (.int (nI i)), some (.int (α 16 p)), some (.int (nI e))], [.ref 19]) (ae_rd (au σ [(12, nI d.length)]) (au α [(17, rt), (18, rp)]) tx tl)
              rw [tkN, if_neg (by omega)] at hl
              refine aw_go 3 rfl ⟨trivial, trivial, trivial, trivial⟩ ?_
              refine aw_callE rfl rfl (ev_Reader_number (p := p) (e := e) (by omega) (by omega)) ?_
              show aw_W _ _ _ _ (46, [some (.ref 19), some (.int (nI p)), some (.int (nI i)), some (.int (α 16 p)), some (.int (nI e))], [.int (nV (α 16) p (e - p)), .ref 19]) (ae_rd (au σ [(12, nI d.length)]) (au α [(17, rt), (18, rp)]) tx tl)
              refine aw_go 1 rfl ⟨trivial, trivial⟩ ?_
              refine aw_call rfl rfl (ev_Reader_addToken (t := (nV (α 16) p (e - p))) (p := p) rfl (by omega)) ?_
              rintro _ _ ⟨rfl, rfl⟩
              show aw_W _ _ _ _ (48, [some (.ref 19), some (.int (nI p)), some (.int (nI i)), some (.int (α 16 p)), some (.int (nI e))], []) (ae_rd (au σ [(12, nI (d.length + 1))]) (au α [(17, upd rt d.length (nV (α 16) p (e - p))), (18, upd rp d.length (nI p))]) tx tl)
              refine aw_go 5 rfl ⟨trivial, trivial, trivial, trivial, trivial, trivial⟩ ?_
              show aw_W _ _ _ _ (7, [some (.ref 19), some (.int (nI e)), some (.int ((nI i) + 1)), some (.int (α 16 p)), some (.int (nI e))], []) (ae_rd (au σ [(12, nI (d.length + 1))]) (au α [(17, upd rt d.length (nV (α 16) p (e - p))), (18, upd rp d.length (nI p))]) tx tl)
              rw [show (nI i) + 1 = nI (i + 1) from (cI_add (a := i) (b := 1) rfl rfl)]
              exact aw_to (lp_split hz hs hs160 m e (i + 1) (by omega) (by omega) (by omega) (tkA_snoc hT) hl) rfl (by rw [List.length_append]; rfl)
            · skip
              have h39 := cI_leF (a := e - p) (b := 4) (cI_sub (a := e) (b := p) rfl rfl (by omega)) rfl (by omega) (by omega) h39
              show aw_W _ _ _ _ (40, [some (.ref 19), some (.int (nI p)), some (.int (nI i)), some (.int (α 16 p)), some (.int (nI e))], [.ref 19]) (ae_rd (au σ [(12, nI d.length)]) (au α [(17, rt), (18, rp)]) tx tl)
              rw [tkN, if_pos (by omega)] at hl
              refine aw_go 3 rfl ⟨trivial, trivial, trivial, trivial⟩ ?_
              refine aw_call rfl rfl (ev_Reader_addToken (t := (-16)) (p := p) rfl (by omega)) ?_
              rintro _ _ ⟨rfl, rfl⟩
              show aw_W _ _ _ _ (48, [some (.ref 19), some (.int (nI p)), some (.int (nI i)), some (.int (α 16 p)), some (.int (nI e))], []) (ae_rd (au σ [(12, nI (d.length + 1))]) (au α [(17, upd rt d.length (-16)), (18, upd rp d.length (nI p))]) tx tl)
              refine aw_go 5 rfl ⟨trivial, trivial, trivial, trivial, trivial, trivial⟩ ?_
              show aw_W _ _ _ _ (7, [some (.ref 19), some (.int (nI e)), some (.int ((nI i) + 1)), some (.int (α 16 p)), some (.int (nI e))], []) (ae_rd (au σ [(12, nI (d.length + 1))]) (au α [(17, upd rt d.length (-16)), (18, upd rp d.length (nI p))]) tx tl)
              rw [show (nI i) + 1 = nI (i + 1) from (cI_add (a := i) (b := 1) rfl rfl)]
              exact aw_to (lp_split hz hs hs160 m e (i + 1) (by omega) (by omega) (by omega) (tkA_snoc hT) hl) rfl (by rw [List.length_append]; rfl)
        · skip
          have h24 := Classical.not_not.mp h24
          show aw_W _ _ _ _ (25, [some (.ref 19), some (.int (nI p)), some (.int (nI i)), some (.int (α 16 p)), l4], []) (ae_rd (au σ [(12, nI d.length)]) (au α [(17, rt), (18, rp)]) tx tl)
          refine aw_go 4 rfl ⟨trivial, trivial, trivial, trivial, trivial⟩ ?_
          show aw_W _ _ _ _ (7, [some (.ref 19), some (.int ((nI p) + 1)), some (.int ((nI i) + 1)), some (.int (α 16 p)), l4], []) (ae_rd (au σ [(12, nI d.length)]) (au α [(17, rt), (18, rp)]) tx tl)
          rw [show (nI p) + 1 = nI (p + 1) from (cI_add (a := p) (b := 1) rfl rfl)]
          rw [show (nI i) + 1 = nI (i + 1) from (cI_add (a := i) (b := 1) rfl rfl)]
          rw [lx_sp h13 (Or.inr h24)] at hl
          exact lp_split hz hs hs160 m (p + 1) (i + 1) (by omega) (by omega) (by omega) hT hl
termination_by m
decreasing_by all_goals omega
theorem ev_Reader_split {s : Nat} {zd : Nat} (hz : P.2.2 = .null ∨ P.2.2 = .retAddr 700) (hs : (σ 11) = nI s) (hs160 : s ≤ 160) : aw_X P (zd + 7) 70 [.ref 19] (ae_rd σ α tx tl) (fun r H => ∃ (rt : Nat → Int32) (rp : Nat → Int32), r = none ∧ H = (ae_rd (au σ [(12, nI (lx (α 16) s 160 0).length)]) (au α [(17, rt), (18, rp)]) tx tl) ∧ tkA rt rp 0 (lx (α 16) s 160 0)) := by
  refine aw_ev (cd := cd_Reader_split) rfl rfl rfl ?_
  show aw_W _ _ _ _ (0, [some (.ref 19), none, none, none, none], []) (ae_rd σ α tx tl)
  refine aw_go 7 rfl ⟨trivial, trivial, trivial, trivial, trivial, trivial, trivial, trivial⟩ ?_
  show aw_W _ _ _ _ (7, [some (.ref 19), some (.int 0), some (.int 0), none, none], []) (ae_rd (au σ [(12, 0)]) α tx tl)
  exact aw_to (lp_split (rt := (α 17)) (rp := (α 18)) (d := []) hz hs hs160 160 0 0 rfl (Nat.zero_le _) (by omega) trivial rfl) rfl rfl
end L35
