/-! a text is kept (class) -/
/-- what lies behind the class' first cells -/
def ae_tlL (σ : Nat → Int32) (α : Nat → Nat → Int32) (z : Int64) (t0 : ae_T) (ts : List ae_T) : List va_E :=
  (.inr (5, [.ref 45, .ref 44])) ::
  (.inl (0, 3, .inl t0.2.2)) ::
  (.inl (0, t0.1, .inl t0.2.1)) ::
  (.inr (7, [.int (σ 26), .int (σ 27), .ref 47, .ref 48, .ref 49, .ref 50, .ref 51, .ref 52, .ref 53, .ref 54, .int (σ 28), .int (σ 29), .int (σ 30), .ref 55, .int (σ 31), .int (σ 32), .int (σ 33), .ref 56, .ref 57, .ref 58, .int (σ 34), .int (σ 35), .int (σ 36), .int (σ 37), .int (σ 38), .int (σ 39), .int (σ 40), .ref 59, .ref 60, .ref 61, .ref 62, .int (σ 41), .long z, .ref 63, .ref 64, .ref 65, .ref 66, .int (σ 42), .int (σ 43), .int (σ 44), .int (σ 45), .int (σ 46), .int (σ 47), .int (σ 48), .int (σ 49), .int (σ 50), .ref 67, .ref 68, .ref 69, .ref 70, .ref 71, .ref 72, .ref 73, .ref 74, .ref 75])) ::
  (.inl (0, 10, .inl (α 31))) ::
  (.inl (0, 10, .inl (α 32))) ::
  (.inl (0, 10, .inl (α 33))) ::
  (.inl (0, 10, .inl (α 34))) ::
  (.inl (0, 10, .inl (α 35))) ::
  (.inl (0, 10, .inl (α 36))) ::
  (.inl (0, 10, .inl (α 37))) ::
  (.inl (0, 10, .inl (α 38))) ::
  (.inl (1, 160, .inl (α 39))) ::
  (.inl (0, 1190, .inl (α 40))) ::
  (.inl (0, 1190, .inl (α 41))) ::
  (.inl (0, 21, .inl (α 42))) ::
  (.inl (0, 170, .inl (α 43))) ::
  (.inl (0, 6, .inl (α 44))) ::
  (.inl (0, 53, .inl (α 45))) ::
  (.inl (0, 12, .inl (α 46))) ::
  (.inl (0, 10, .inl (α 47))) ::
  (.inl (0, 10, .inl (α 48))) ::
  (.inl (0, 10, .inl (α 49))) ::
  (.inl (0, 10, .inl (α 50))) ::
  (.inl (0, 10, .inl (α 51))) ::
  (.inl (0, 10, .inl (α 52))) ::
  (.inl (0, 10, .inl (α 53))) ::
  (.inl (0, 10, .inl (α 54))) ::
  (.inl (0, 10, .inl (α 55))) ::
  (.inl (0, 4, .inl (α 56))) ::
  (.inl (0, 4, .inl (α 57))) ::
  (.inl (0, 160, .inl (α 58))) ::
  (.inl (0, 40, .inl (α 59))) ::
  ae_enT 76 ts
theorem en_rd (σ : Nat → Int32) (α : Nat → Nat → Int32) (z : Int64) (t0 : ae_T) (ts : List ae_T) : ae_en σ α z t0 ts = ae_rd σ α (ae_tx ts.length) (ae_tlL σ α z t0 ts) := rfl
theorem tx_up (k : Nat) : va_up (ae_tx k) (k + 1) (some (ae_tpl (k + 1))) = ae_tx (k + 1) := by
  funext j
  unfold va_up ae_tx
  by_cases e : j = k + 1
  · subst e
    rw [if_pos rfl, if_pos (by omega)]
  · rw [if_neg e]
    by_cases q : j < k + 1
    · rw [if_pos q, if_pos (by omega)]
    · rw [if_neg q, if_neg (by omega)]
theorem tx_up0 : va_up (fun _ => none) 0 (some 43) = ae_tx 0 := by
  funext j
  unfold va_up ae_tx
  by_cases e : j = 0
  · subst e
    rw [if_pos rfl, if_pos (by omega)]
    rfl
  · rw [if_neg e, if_neg (by omega)]
theorem hasAt_cg {f g : Nat → Int32} : ∀ {p : Nat} {l : List Int32}, (∀ j, p ≤ j → j < p + l.length → f j = g j) → hasAt f p l → hasAt g p l
  | _, [], _, _ => trivial
  | p, x :: l, h, ⟨h1, h2⟩ => ⟨by rw [← h p (Nat.le_refl p) (by rw [List.length_cons]; omega)]; exact h1, hasAt_cg (fun j h3 h4 => h j (by omega) (by rw [List.length_cons]; omega)) h2⟩
def e3 (s1 s2 s3 : List Int32) : Nat → List Int32
  | 0 => s1
  | 1 => s2
  | _ => s3
/-- the text that is kept -/
def tK (S E : Nat → Int32) (c : Nat) : ae_T := (c, va_cpy S (fun _ => 0) 0 0 c, va_cpy E (fun _ => 0) 0 0 3)
theorem tK_ok {S E : Nat → Int32} {s1 s2 s3 : List Int32} (h1 : dOk s1 0 1) (h2 : dOk s2 0 1) (h3 : dOk s3 0 1) (hl : s1.length + s2.length + s3.length ≤ 160) : tOk (tK (putL (putL (putL S 0 s1) (0 + s1.length) s2) (0 + s1.length + s2.length) s3) (upd (upd (upd E 0 (nI (0 + s1.length))) 1 (nI (0 + s1.length + s2.length))) 2 (nI (0 + s1.length + s2.length + s3.length))) (0 + s1.length + s2.length + s3.length)) (e3 s1 s2 s3) := by
  have cg : ∀ {p : Nat} {l : List Int32} {F : Nat → Int32}, p + l.length ≤ 0 + s1.length + s2.length + s3.length → hasAt F p l → hasAt (va_cpy F (fun _ => 0) 0 0 (0 + s1.length + s2.length + s3.length)) p l := by
    intro p l F hp h
    refine hasAt_cg (fun j h3 h4 => ?_) h
    rw [fC_cpy0, fC_lt (by omega)]
  have en : ∀ {F : Nat → Int32} {q : Nat}, q < 3 → va_cpy F (fun _ => 0) 0 0 3 q = F q := by
    intro F q hq
    rw [fC_cpy0, fC_lt hq]
  refine ⟨fun q hq => ?_, by show 0 + s1.length + s2.length + s3.length ≤ 160; omega⟩
  obtain rfl | rfl | rfl : q = 0 ∨ q = 1 ∨ q = 2 := by omega
  · refine ⟨h1, cg (p := 0) (l := s1) (by omega) ?_, ?_, by show 0 + s1.length ≤ 0 + s1.length + s2.length + s3.length; omega⟩
    · refine hasAt_cg (fun j h3 h4 => ?_) (putL_has S 0 s1)
      rw [putL_lt _ (0 + s1.length + s2.length) s3 j (by omega), putL_lt _ (0 + s1.length) s2 j (by omega)]
    · exact (en (F := upd (upd (upd E 0 (nI (0 + s1.length))) 1 (nI (0 + s1.length + s2.length))) 2 (nI (0 + s1.length + s2.length + s3.length))) (q := 0) (by decide)).trans rfl
  · refine ⟨h2, cg (p := 0 + s1.length) (l := s2) (by omega) ?_, ?_, by show 0 + s1.length + s2.length ≤ 0 + s1.length + s2.length + s3.length; omega⟩
    · refine hasAt_cg (fun j h3 h4 => ?_) (putL_has (putL S 0 s1) (0 + s1.length) s2)
      rw [putL_lt _ (0 + s1.length + s2.length) s3 j (by omega)]
    · exact (en (F := upd (upd (upd E 0 (nI (0 + s1.length))) 1 (nI (0 + s1.length + s2.length))) 2 (nI (0 + s1.length + s2.length + s3.length))) (q := 1) (by decide)).trans rfl
  · refine ⟨h3, cg (p := 0 + s1.length + s2.length) (l := s3) (by omega) (putL_has _ _ _), ?_, by show 0 + s1.length + s2.length + s3.length ≤ 0 + s1.length + s2.length + s3.length; omega⟩
    exact (en (F := upd (upd (upd E 0 (nI (0 + s1.length))) 1 (nI (0 + s1.length + s2.length))) 2 (nI (0 + s1.length + s2.length + s3.length))) (q := 2) (by decide)).trans rfl
theorem cp3 {n m k : Nat} (h : n ≤ m) (h2 : n ≤ k) (hn : n < 2 ^ 31) : ¬ (0 : Int32) < 0 ∧ ¬ (0 : Int32) < 0 ∧ ¬ Int32.ofNat n < 0 ∧ (0 : Int32).toNatClampNeg + (Int32.ofNat n).toNatClampNeg ≤ m ∧ (0 : Int32).toNatClampNeg + (Int32.ofNat n).toNatClampNeg ≤ k := cp0 h h2 hn
theorem na_ok {x : Int32} {n : Nat} (e : x = nI n) (hn : n ≤ 10000) : ¬ x < 0 ∧ x.toNatClampNeg ≤ 10000 := by
  subst e
  rw [nI_clamp (by omega)]
  exact ⟨nI_pos (by omega), hn⟩
section L39i
variable {P : ae_P} {σ : Nat → Int32} {α : Nat → Nat → Int32} {z : Int64} {t0 : ae_T}
theorem ev_Steps_i {c zd : Nat} (hc : (σ 14) = nI c) (hc160 : c ≤ 160) : aw_X P (zd + 1) 97 [.ref 43, .ref 19] (ae_rd σ α (fun _ => none) (([] : List va_E) ++ [.inr (5, [.null, .null])])) (fun r H => r = none ∧ H = (ae_rd σ α (fun _ => none) (([] : List va_E) ++ [.inr (5, [.ref 45, .ref 44]), .inl (0, 3, .inl (va_cpy (α 20) (fun _ => 0) 0 0 3)), .inl (0, c, .inl (va_cpy (α 19) (fun _ => 0) 0 0 c))]))) := by
  refine aw_ev (cd := cd_Steps_init) rfl rfl rfl ?_
  show aw_W _ _ _ _ (0, [some (.ref 43), some (.ref 19)], []) (ae_rd σ α (fun _ => none) (([] : List va_E) ++ [.inr (5, [.null, .null])]))
  refine aw_go 11 rfl ⟨trivial, trivial, trivial, trivial, (na_ok (n := 3) rfl (by decide)), trivial, trivial, trivial, trivial, (na_ok hc (by omega)), trivial, trivial⟩ ?_
  show aw_W _ _ _ _ (11, [some (.ref 43), some (.ref 19)], []) (ae_rd σ α (fun _ => none) (([] : List va_E) ++ [.inr (5, [.ref 45, .ref 44]), .inl (0, (3 : Int32).toNatClampNeg, .inl (fun _ => 0)), .inl (0, (σ 14).toNatClampNeg, .inl (fun _ => 0))]))
  rw [show (3 : Int32).toNatClampNeg = 3 from cI_cl (a := 3) rfl (by omega)]
  rw [show (σ 14).toNatClampNeg = c from cI_cl (a := c) hc (by omega)]
  refine aw_go 18 rfl ⟨trivial, trivial, trivial, trivial, trivial, trivial, trivial, trivial, trivial, (cp3 (by omega) (by omega) (by omega)), trivial, trivial, trivial, trivial, trivial, trivial, trivial, (cp0 (n := 3) (by decide) (by decide) (by decide)), trivial⟩ ?_
  show aw_W _ _ _ _ (29, [some (.ref 43), some (.ref 19)], []) (ae_rd σ α (fun _ => none) (([] : List va_E) ++ [.inr (5, [.ref 45, .ref 44]), .inl (0, 3, .inl (va_cpy (α 20) (fun _ => 0) (0 : Int32).toNatClampNeg (0 : Int32).toNatClampNeg (3 : Int32).toNatClampNeg)), .inl (0, c, .inl (va_cpy (α 19) (fun _ => 0) (0 : Int32).toNatClampNeg (0 : Int32).toNatClampNeg (Int32.ofNat c).toNatClampNeg))]))
  rw [show (0 : Int32).toNatClampNeg = 0 from cI_cl (a := 0) rfl (by omega)]
  rw [show (Int32.ofNat c).toNatClampNeg = c from cI_cl (a := c) rfl (by omega)]
  rw [show (3 : Int32).toNatClampNeg = 3 from cI_cl (a := 3) rfl (by omega)]
  refine aw_ret rfl rfl trivial ?_
  exact ⟨rfl, rfl⟩
theorem ev_keep_i {c zd : Nat} (hs : (σ 15) = nI 0) (hc : (σ 14) = nI c) (hc160 : c ≤ 160) : aw_X P (zd + 2) 88 [.ref 25, .ref 19] (ae_rd σ α (fun _ => none) ([] : List va_E)) (fun r H => r = some (.int (nI 0)) ∧ H = ae_rd (au σ [(15, nI 1)]) α (ae_tx 0) (([] : List va_E) ++ [.inr (5, [.ref 45, .ref 44]), .inl (0, 3, .inl (va_cpy (α 20) (fun _ => 0) 0 0 3)), .inl (0, c, .inl (va_cpy (α 19) (fun _ => 0) 0 0 c))])) := by
  refine aw_ev (cd := cd_Rules_keep) rfl rfl rfl ?_
  show aw_W _ _ _ _ (0, [some (.ref 25), some (.ref 19)], []) (ae_rd σ α (fun _ => none) ([] : List va_E))
  refine aw_go 4 rfl ⟨trivial, trivial, trivial, trivial, trivial⟩ ?_
  show aw_W _ _ _ _ (if (σ 15) < 6 then 6 else 4, [some (.ref 25), some (.ref 19)], []) (ae_rd σ α (fun _ => none) ([] : List va_E))
  refine aw_br (c := (σ 15) < 6) (fun h3 => ?_) (fun h3 => ?_)
  · skip
    have h3 := cI_ltT (a := 0) (b := 6) hs rfl (by omega) (by omega) h3
    show aw_W _ _ _ _ (6, [some (.ref 25), some (.ref 19)], []) (ae_rd σ α (fun _ => none) ([] : List va_E))
    refine aw_go 7 rfl ⟨trivial, trivial, trivial, trivial, trivial, trivial, trivial, trivial⟩ ?_
    show aw_W _ _ _ _ (13, [some (.ref 25), some (.ref 19)], [.ref 19, .ref 43, .ref 43, .int (σ 15), .ref 26]) (ae_rd σ α (fun _ => none) (([] : List va_E) ++ [.inr (5, [.null, .null])]))
    refine aw_call rfl rfl (ev_Steps_i  hc hc160) ?_
    rintro _ _ ⟨rfl, rfl⟩
    show aw_W _ _ _ _ (14, [some (.ref 25), some (.ref 19)], [.ref 43, .int (σ 15), .ref 26]) (ae_rd σ α (fun _ => none) (([] : List va_E) ++ [.inr (5, [.ref 45, .ref 44]), .inl (0, 3, .inl (va_cpy (α 20) (fun _ => 0) 0 0 3)), .inl (0, c, .inl (va_cpy (α 19) (fun _ => 0) 0 0 c))]))
    refine aw_go 1 rfl ⟨(cI_in (a := 0) hs (by omega) (by decide)), trivial⟩ ?_
    show aw_W _ _ _ _ (15, [some (.ref 25), some (.ref 19)], []) (ae_rd σ α (va_up (fun _ => none) (σ 15).toNatClampNeg (some 43)) (([] : List va_E) ++ [.inr (5, [.ref 45, .ref 44]), .inl (0, 3, .inl (va_cpy (α 20) (fun _ => 0) 0 0 3)), .inl (0, c, .inl (va_cpy (α 19) (fun _ => 0) 0 0 c))]))
    rw [show (σ 15).toNatClampNeg = 0 from cI_cl (a := 0) hs (by omega)]
    rw [show va_up (fun _ => none) 0 (some 43) = ae_tx 0 from tx_up0]
    refine aw_go 6 rfl ⟨trivial, trivial, trivial, trivial, trivial, trivial, trivial⟩ ?_
    show aw_W _ _ _ _ (21, [some (.ref 25), some (.ref 19)], []) (ae_rd (au σ [(15, (σ 15) + 1)]) α (ae_tx 0) (([] : List va_E) ++ [.inr (5, [.ref 45, .ref 44]), .inl (0, 3, .inl (va_cpy (α 20) (fun _ => 0) 0 0 3)), .inl (0, c, .inl (va_cpy (α 19) (fun _ => 0) 0 0 c))]))
    rw [show (σ 15) + 1 = nI 1 from cI_add hs rfl]
    refine aw_go 4 rfl ⟨trivial, trivial, trivial, trivial, trivial⟩ ?_
    show aw_W _ _ _ _ (25, [some (.ref 25), some (.ref 19)], [.int ((nI 1) - 1)]) (ae_rd (au σ [(15, nI 1)]) α (ae_tx 0) (([] : List va_E) ++ [.inr (5, [.ref 45, .ref 44]), .inl (0, 3, .inl (va_cpy (α 20) (fun _ => 0) 0 0 3)), .inl (0, c, .inl (va_cpy (α 19) (fun _ => 0) 0 0 c))]))
    rw [show (nI 1) - 1 = nI (1 - 1) from (cI_sub (a := 1) (b := 1) rfl rfl (by omega))]
    refine aw_ret rfl rfl trivial ?_
    exact ⟨rfl, rfl⟩
  · skip
    have h3 := cI_ltF (a := 0) (b := 6) hs rfl (by omega) (by omega) h3
    show aw_W _ _ _ _ (4, [some (.ref 25), some (.ref 19)], []) (ae_rd σ α (fun _ => none) ([] : List va_E))
    exact absurd h3 (by omega)
end L39i
section L390
variable {P : ae_P} {σ : Nat → Int32} {α : Nat → Nat → Int32} {z : Int64} {t0 : ae_T}
theorem ev_Steps_0 {c zd : Nat} (hc : (σ 14) = nI c) (hc160 : c ≤ 160) : aw_X P (zd + 1) 97 [.ref 76, .ref 19] (ae_rd σ α (ae_tx 0) (ae_tlL σ α z t0 [] ++ [.inr (5, [.null, .null])])) (fun r H => r = none ∧ H = (ae_rd σ α (ae_tx 0) (ae_tlL σ α z t0 [] ++ [.inr (5, [.ref 78, .ref 77]), .inl (0, 3, .inl (va_cpy (α 20) (fun _ => 0) 0 0 3)), .inl (0, c, .inl (va_cpy (α 19) (fun _ => 0) 0 0 c))]))) := by
  refine aw_ev (cd := cd_Steps_init) rfl rfl rfl ?_
  show aw_W _ _ _ _ (0, [some (.ref 76), some (.ref 19)], []) (ae_rd σ α (ae_tx 0) (ae_tlL σ α z t0 [] ++ [.inr (5, [.null, .null])]))
  refine aw_go 11 rfl ⟨trivial, trivial, trivial, trivial, (na_ok (n := 3) rfl (by decide)), trivial, trivial, trivial, trivial, (na_ok hc (by omega)), trivial, trivial⟩ ?_
  show aw_W _ _ _ _ (11, [some (.ref 76), some (.ref 19)], []) (ae_rd σ α (ae_tx 0) (ae_tlL σ α z t0 [] ++ [.inr (5, [.ref 78, .ref 77]), .inl (0, (3 : Int32).toNatClampNeg, .inl (fun _ => 0)), .inl (0, (σ 14).toNatClampNeg, .inl (fun _ => 0))]))
  rw [show (3 : Int32).toNatClampNeg = 3 from cI_cl (a := 3) rfl (by omega)]
  rw [show (σ 14).toNatClampNeg = c from cI_cl (a := c) hc (by omega)]
  refine aw_go 18 rfl ⟨trivial, trivial, trivial, trivial, trivial, trivial, trivial, trivial, trivial, (cp3 (by omega) (by omega) (by omega)), trivial, trivial, trivial, trivial, trivial, trivial, trivial, (cp0 (n := 3) (by decide) (by decide) (by decide)), trivial⟩ ?_
  show aw_W _ _ _ _ (29, [some (.ref 76), some (.ref 19)], []) (ae_rd σ α (ae_tx 0) (ae_tlL σ α z t0 [] ++ [.inr (5, [.ref 78, .ref 77]), .inl (0, 3, .inl (va_cpy (α 20) (fun _ => 0) (0 : Int32).toNatClampNeg (0 : Int32).toNatClampNeg (3 : Int32).toNatClampNeg)), .inl (0, c, .inl (va_cpy (α 19) (fun _ => 0) (0 : Int32).toNatClampNeg (0 : Int32).toNatClampNeg (Int32.ofNat c).toNatClampNeg))]))
  rw [show (0 : Int32).toNatClampNeg = 0 from cI_cl (a := 0) rfl (by omega)]
  rw [show (Int32.ofNat c).toNatClampNeg = c from cI_cl (a := c) rfl (by omega)]
  rw [show (3 : Int32).toNatClampNeg = 3 from cI_cl (a := 3) rfl (by omega)]
  refine aw_ret rfl rfl trivial ?_
  exact ⟨rfl, rfl⟩
theorem ev_keep_0 {c zd : Nat} (hs : (σ 15) = nI 1) (hc : (σ 14) = nI c) (hc160 : c ≤ 160) : aw_X P (zd + 2) 88 [.ref 25, .ref 19] (ae_rd σ α (ae_tx 0) (ae_tlL σ α z t0 [])) (fun r H => r = some (.int (nI 1)) ∧ H = ae_rd (au σ [(15, nI 2)]) α (ae_tx 1) (ae_tlL σ α z t0 [] ++ [.inr (5, [.ref 78, .ref 77]), .inl (0, 3, .inl (va_cpy (α 20) (fun _ => 0) 0 0 3)), .inl (0, c, .inl (va_cpy (α 19) (fun _ => 0) 0 0 c))])) := by
  refine aw_ev (cd := cd_Rules_keep) rfl rfl rfl ?_
  show aw_W _ _ _ _ (0, [some (.ref 25), some (.ref 19)], []) (ae_rd σ α (ae_tx 0) (ae_tlL σ α z t0 []))
  refine aw_go 4 rfl ⟨trivial, trivial, trivial, trivial, trivial⟩ ?_
  show aw_W _ _ _ _ (if (σ 15) < 6 then 6 else 4, [some (.ref 25), some (.ref 19)], []) (ae_rd σ α (ae_tx 0) (ae_tlL σ α z t0 []))
  refine aw_br (c := (σ 15) < 6) (fun h3 => ?_) (fun h3 => ?_)
  · skip
    have h3 := cI_ltT (a := 1) (b := 6) hs rfl (by omega) (by omega) h3
    show aw_W _ _ _ _ (6, [some (.ref 25), some (.ref 19)], []) (ae_rd σ α (ae_tx 0) (ae_tlL σ α z t0 []))
    refine aw_go 7 rfl ⟨trivial, trivial, trivial, trivial, trivial, trivial, trivial, trivial⟩ ?_
    show aw_W _ _ _ _ (13, [some (.ref 25), some (.ref 19)], [.ref 19, .ref 76, .ref 76, .int (σ 15), .ref 26]) (ae_rd σ α (ae_tx 0) (ae_tlL σ α z t0 [] ++ [.inr (5, [.null, .null])]))
    refine aw_call rfl rfl (ev_Steps_0  hc hc160) ?_
    rintro _ _ ⟨rfl, rfl⟩
    show aw_W _ _ _ _ (14, [some (.ref 25), some (.ref 19)], [.ref 76, .int (σ 15), .ref 26]) (ae_rd σ α (ae_tx 0) (ae_tlL σ α z t0 [] ++ [.inr (5, [.ref 78, .ref 77]), .inl (0, 3, .inl (va_cpy (α 20) (fun _ => 0) 0 0 3)), .inl (0, c, .inl (va_cpy (α 19) (fun _ => 0) 0 0 c))]))
    refine aw_go 1 rfl ⟨(cI_in (a := 1) hs (by omega) (by decide)), trivial⟩ ?_
    show aw_W _ _ _ _ (15, [some (.ref 25), some (.ref 19)], []) (ae_rd σ α (va_up (ae_tx 0) (σ 15).toNatClampNeg (some 76)) (ae_tlL σ α z t0 [] ++ [.inr (5, [.ref 78, .ref 77]), .inl (0, 3, .inl (va_cpy (α 20) (fun _ => 0) 0 0 3)), .inl (0, c, .inl (va_cpy (α 19) (fun _ => 0) 0 0 c))]))
    rw [show (σ 15).toNatClampNeg = 1 from cI_cl (a := 1) hs (by omega)]
    rw [show va_up (ae_tx 0) 1 (some 76) = ae_tx 1 from tx_up 0]
    refine aw_go 6 rfl ⟨trivial, trivial, trivial, trivial, trivial, trivial, trivial⟩ ?_
    show aw_W _ _ _ _ (21, [some (.ref 25), some (.ref 19)], []) (ae_rd (au σ [(15, (σ 15) + 1)]) α (ae_tx 1) (ae_tlL σ α z t0 [] ++ [.inr (5, [.ref 78, .ref 77]), .inl (0, 3, .inl (va_cpy (α 20) (fun _ => 0) 0 0 3)), .inl (0, c, .inl (va_cpy (α 19) (fun _ => 0) 0 0 c))]))
    rw [show (σ 15) + 1 = nI 2 from cI_add hs rfl]
    refine aw_go 4 rfl ⟨trivial, trivial, trivial, trivial, trivial⟩ ?_
    show aw_W _ _ _ _ (25, [some (.ref 25), some (.ref 19)], [.int ((nI 2) - 1)]) (ae_rd (au σ [(15, nI 2)]) α (ae_tx 1) (ae_tlL σ α z t0 [] ++ [.inr (5, [.ref 78, .ref 77]), .inl (0, 3, .inl (va_cpy (α 20) (fun _ => 0) 0 0 3)), .inl (0, c, .inl (va_cpy (α 19) (fun _ => 0) 0 0 c))]))
    rw [show (nI 2) - 1 = nI (2 - 1) from (cI_sub (a := 2) (b := 1) rfl rfl (by omega))]
    refine aw_ret rfl rfl trivial ?_
    exact ⟨rfl, rfl⟩
  · skip
    have h3 := cI_ltF (a := 1) (b := 6) hs rfl (by omega) (by omega) h3
    show aw_W _ _ _ _ (4, [some (.ref 25), some (.ref 19)], []) (ae_rd σ α (ae_tx 0) (ae_tlL σ α z t0 []))
    exact absurd h3 (by omega)
end L390
section L391
variable {P : ae_P} {σ : Nat → Int32} {α : Nat → Nat → Int32} {z : Int64} {t0 : ae_T}
theorem ev_Steps_1 {t1 : ae_T} {c zd : Nat} (hc : (σ 14) = nI c) (hc160 : c ≤ 160) : aw_X P (zd + 1) 97 [.ref 79, .ref 19] (ae_rd σ α (ae_tx 1) (ae_tlL σ α z t0 [t1] ++ [.inr (5, [.null, .null])])) (fun r H => r = none ∧ H = (ae_rd σ α (ae_tx 1) (ae_tlL σ α z t0 [t1] ++ [.inr (5, [.ref 81, .ref 80]), .inl (0, 3, .inl (va_cpy (α 20) (fun _ => 0) 0 0 3)), .inl (0, c, .inl (va_cpy (α 19) (fun _ => 0) 0 0 c))]))) := by
  refine aw_ev (cd := cd_Steps_init) rfl rfl rfl ?_
  show aw_W _ _ _ _ (0, [some (.ref 79), some (.ref 19)], []) (ae_rd σ α (ae_tx 1) (ae_tlL σ α z t0 [t1] ++ [.inr (5, [.null, .null])]))
  refine aw_go 11 rfl ⟨trivial, trivial, trivial, trivial, (na_ok (n := 3) rfl (by decide)), trivial, trivial, trivial, trivial, (na_ok hc (by omega)), trivial, trivial⟩ ?_
  show aw_W _ _ _ _ (11, [some (.ref 79), some (.ref 19)], []) (ae_rd σ α (ae_tx 1) (ae_tlL σ α z t0 [t1] ++ [.inr (5, [.ref 81, .ref 80]), .inl (0, (3 : Int32).toNatClampNeg, .inl (fun _ => 0)), .inl (0, (σ 14).toNatClampNeg, .inl (fun _ => 0))]))
  rw [show (3 : Int32).toNatClampNeg = 3 from cI_cl (a := 3) rfl (by omega)]
  rw [show (σ 14).toNatClampNeg = c from cI_cl (a := c) hc (by omega)]
  refine aw_go 18 rfl ⟨trivial, trivial, trivial, trivial, trivial, trivial, trivial, trivial, trivial, (cp3 (by omega) (by omega) (by omega)), trivial, trivial, trivial, trivial, trivial, trivial, trivial, (cp0 (n := 3) (by decide) (by decide) (by decide)), trivial⟩ ?_
  show aw_W _ _ _ _ (29, [some (.ref 79), some (.ref 19)], []) (ae_rd σ α (ae_tx 1) (ae_tlL σ α z t0 [t1] ++ [.inr (5, [.ref 81, .ref 80]), .inl (0, 3, .inl (va_cpy (α 20) (fun _ => 0) (0 : Int32).toNatClampNeg (0 : Int32).toNatClampNeg (3 : Int32).toNatClampNeg)), .inl (0, c, .inl (va_cpy (α 19) (fun _ => 0) (0 : Int32).toNatClampNeg (0 : Int32).toNatClampNeg (Int32.ofNat c).toNatClampNeg))]))
  rw [show (0 : Int32).toNatClampNeg = 0 from cI_cl (a := 0) rfl (by omega)]
  rw [show (Int32.ofNat c).toNatClampNeg = c from cI_cl (a := c) rfl (by omega)]
  rw [show (3 : Int32).toNatClampNeg = 3 from cI_cl (a := 3) rfl (by omega)]
  refine aw_ret rfl rfl trivial ?_
  exact ⟨rfl, rfl⟩
theorem ev_keep_1 {t1 : ae_T} {c zd : Nat} (hs : (σ 15) = nI 2) (hc : (σ 14) = nI c) (hc160 : c ≤ 160) : aw_X P (zd + 2) 88 [.ref 25, .ref 19] (ae_rd σ α (ae_tx 1) (ae_tlL σ α z t0 [t1])) (fun r H => r = some (.int (nI 2)) ∧ H = ae_rd (au σ [(15, nI 3)]) α (ae_tx 2) (ae_tlL σ α z t0 [t1] ++ [.inr (5, [.ref 81, .ref 80]), .inl (0, 3, .inl (va_cpy (α 20) (fun _ => 0) 0 0 3)), .inl (0, c, .inl (va_cpy (α 19) (fun _ => 0) 0 0 c))])) := by
  refine aw_ev (cd := cd_Rules_keep) rfl rfl rfl ?_
  show aw_W _ _ _ _ (0, [some (.ref 25), some (.ref 19)], []) (ae_rd σ α (ae_tx 1) (ae_tlL σ α z t0 [t1]))
  refine aw_go 4 rfl ⟨trivial, trivial, trivial, trivial, trivial⟩ ?_
  show aw_W _ _ _ _ (if (σ 15) < 6 then 6 else 4, [some (.ref 25), some (.ref 19)], []) (ae_rd σ α (ae_tx 1) (ae_tlL σ α z t0 [t1]))
  refine aw_br (c := (σ 15) < 6) (fun h3 => ?_) (fun h3 => ?_)
  · skip
    have h3 := cI_ltT (a := 2) (b := 6) hs rfl (by omega) (by omega) h3
    show aw_W _ _ _ _ (6, [some (.ref 25), some (.ref 19)], []) (ae_rd σ α (ae_tx 1) (ae_tlL σ α z t0 [t1]))
    refine aw_go 7 rfl ⟨trivial, trivial, trivial, trivial, trivial, trivial, trivial, trivial⟩ ?_
    show aw_W _ _ _ _ (13, [some (.ref 25), some (.ref 19)], [.ref 19, .ref 79, .ref 79, .int (σ 15), .ref 26]) (ae_rd σ α (ae_tx 1) (ae_tlL σ α z t0 [t1] ++ [.inr (5, [.null, .null])]))
    refine aw_call rfl rfl (ev_Steps_1  hc hc160) ?_
    rintro _ _ ⟨rfl, rfl⟩
    show aw_W _ _ _ _ (14, [some (.ref 25), some (.ref 19)], [.ref 79, .int (σ 15), .ref 26]) (ae_rd σ α (ae_tx 1) (ae_tlL σ α z t0 [t1] ++ [.inr (5, [.ref 81, .ref 80]), .inl (0, 3, .inl (va_cpy (α 20) (fun _ => 0) 0 0 3)), .inl (0, c, .inl (va_cpy (α 19) (fun _ => 0) 0 0 c))]))
    refine aw_go 1 rfl ⟨(cI_in (a := 2) hs (by omega) (by decide)), trivial⟩ ?_
    show aw_W _ _ _ _ (15, [some (.ref 25), some (.ref 19)], []) (ae_rd σ α (va_up (ae_tx 1) (σ 15).toNatClampNeg (some 79)) (ae_tlL σ α z t0 [t1] ++ [.inr (5, [.ref 81, .ref 80]), .inl (0, 3, .inl (va_cpy (α 20) (fun _ => 0) 0 0 3)), .inl (0, c, .inl (va_cpy (α 19) (fun _ => 0) 0 0 c))]))
    rw [show (σ 15).toNatClampNeg = 2 from cI_cl (a := 2) hs (by omega)]
    rw [show va_up (ae_tx 1) 2 (some 79) = ae_tx 2 from tx_up 1]
    refine aw_go 6 rfl ⟨trivial, trivial, trivial, trivial, trivial, trivial, trivial⟩ ?_
    show aw_W _ _ _ _ (21, [some (.ref 25), some (.ref 19)], []) (ae_rd (au σ [(15, (σ 15) + 1)]) α (ae_tx 2) (ae_tlL σ α z t0 [t1] ++ [.inr (5, [.ref 81, .ref 80]), .inl (0, 3, .inl (va_cpy (α 20) (fun _ => 0) 0 0 3)), .inl (0, c, .inl (va_cpy (α 19) (fun _ => 0) 0 0 c))]))
    rw [show (σ 15) + 1 = nI 3 from cI_add hs rfl]
    refine aw_go 4 rfl ⟨trivial, trivial, trivial, trivial, trivial⟩ ?_
    show aw_W _ _ _ _ (25, [some (.ref 25), some (.ref 19)], [.int ((nI 3) - 1)]) (ae_rd (au σ [(15, nI 3)]) α (ae_tx 2) (ae_tlL σ α z t0 [t1] ++ [.inr (5, [.ref 81, .ref 80]), .inl (0, 3, .inl (va_cpy (α 20) (fun _ => 0) 0 0 3)), .inl (0, c, .inl (va_cpy (α 19) (fun _ => 0) 0 0 c))]))
    rw [show (nI 3) - 1 = nI (3 - 1) from (cI_sub (a := 3) (b := 1) rfl rfl (by omega))]
    refine aw_ret rfl rfl trivial ?_
    exact ⟨rfl, rfl⟩
  · skip
    have h3 := cI_ltF (a := 2) (b := 6) hs rfl (by omega) (by omega) h3
    show aw_W _ _ _ _ (4, [some (.ref 25), some (.ref 19)], []) (ae_rd σ α (ae_tx 1) (ae_tlL σ α z t0 [t1]))
    exact absurd h3 (by omega)
end L391
section L392
variable {P : ae_P} {σ : Nat → Int32} {α : Nat → Nat → Int32} {z : Int64} {t0 : ae_T}
theorem ev_Steps_2 {t1 t2 : ae_T} {c zd : Nat} (hc : (σ 14) = nI c) (hc160 : c ≤ 160) : aw_X P (zd + 1) 97 [.ref 82, .ref 19] (ae_rd σ α (ae_tx 2) (ae_tlL σ α z t0 [t1, t2] ++ [.inr (5, [.null, .null])])) (fun r H => r = none ∧ H = (ae_rd σ α (ae_tx 2) (ae_tlL σ α z t0 [t1, t2] ++ [.inr (5, [.ref 84, .ref 83]), .inl (0, 3, .inl (va_cpy (α 20) (fun _ => 0) 0 0 3)), .inl (0, c, .inl (va_cpy (α 19) (fun _ => 0) 0 0 c))]))) := by
  refine aw_ev (cd := cd_Steps_init) rfl rfl rfl ?_
  show aw_W _ _ _ _ (0, [some (.ref 82), some (.ref 19)], []) (ae_rd σ α (ae_tx 2) (ae_tlL σ α z t0 [t1, t2] ++ [.inr (5, [.null, .null])]))
  refine aw_go 11 rfl ⟨trivial, trivial, trivial, trivial, (na_ok (n := 3) rfl (by decide)), trivial, trivial, trivial, trivial, (na_ok hc (by omega)), trivial, trivial⟩ ?_
  show aw_W _ _ _ _ (11, [some (.ref 82), some (.ref 19)], []) (ae_rd σ α (ae_tx 2) (ae_tlL σ α z t0 [t1, t2] ++ [.inr (5, [.ref 84, .ref 83]), .inl (0, (3 : Int32).toNatClampNeg, .inl (fun _ => 0)), .inl (0, (σ 14).toNatClampNeg, .inl (fun _ => 0))]))
  rw [show (3 : Int32).toNatClampNeg = 3 from cI_cl (a := 3) rfl (by omega)]
  rw [show (σ 14).toNatClampNeg = c from cI_cl (a := c) hc (by omega)]
  refine aw_go 18 rfl ⟨trivial, trivial, trivial, trivial, trivial, trivial, trivial, trivial, trivial, (cp3 (by omega) (by omega) (by omega)), trivial, trivial, trivial, trivial, trivial, trivial, trivial, (cp0 (n := 3) (by decide) (by decide) (by decide)), trivial⟩ ?_
  show aw_W _ _ _ _ (29, [some (.ref 82), some (.ref 19)], []) (ae_rd σ α (ae_tx 2) (ae_tlL σ α z t0 [t1, t2] ++ [.inr (5, [.ref 84, .ref 83]), .inl (0, 3, .inl (va_cpy (α 20) (fun _ => 0) (0 : Int32).toNatClampNeg (0 : Int32).toNatClampNeg (3 : Int32).toNatClampNeg)), .inl (0, c, .inl (va_cpy (α 19) (fun _ => 0) (0 : Int32).toNatClampNeg (0 : Int32).toNatClampNeg (Int32.ofNat c).toNatClampNeg))]))
  rw [show (0 : Int32).toNatClampNeg = 0 from cI_cl (a := 0) rfl (by omega)]
  rw [show (Int32.ofNat c).toNatClampNeg = c from cI_cl (a := c) rfl (by omega)]
  rw [show (3 : Int32).toNatClampNeg = 3 from cI_cl (a := 3) rfl (by omega)]
  refine aw_ret rfl rfl trivial ?_
  exact ⟨rfl, rfl⟩
theorem ev_keep_2 {t1 t2 : ae_T} {c zd : Nat} (hs : (σ 15) = nI 3) (hc : (σ 14) = nI c) (hc160 : c ≤ 160) : aw_X P (zd + 2) 88 [.ref 25, .ref 19] (ae_rd σ α (ae_tx 2) (ae_tlL σ α z t0 [t1, t2])) (fun r H => r = some (.int (nI 3)) ∧ H = ae_rd (au σ [(15, nI 4)]) α (ae_tx 3) (ae_tlL σ α z t0 [t1, t2] ++ [.inr (5, [.ref 84, .ref 83]), .inl (0, 3, .inl (va_cpy (α 20) (fun _ => 0) 0 0 3)), .inl (0, c, .inl (va_cpy (α 19) (fun _ => 0) 0 0 c))])) := by
  refine aw_ev (cd := cd_Rules_keep) rfl rfl rfl ?_
  show aw_W _ _ _ _ (0, [some (.ref 25), some (.ref 19)], []) (ae_rd σ α (ae_tx 2) (ae_tlL σ α z t0 [t1, t2]))
  refine aw_go 4 rfl ⟨trivial, trivial, trivial, trivial, trivial⟩ ?_
  show aw_W _ _ _ _ (if (σ 15) < 6 then 6 else 4, [some (.ref 25), some (.ref 19)], []) (ae_rd σ α (ae_tx 2) (ae_tlL σ α z t0 [t1, t2]))
  refine aw_br (c := (σ 15) < 6) (fun h3 => ?_) (fun h3 => ?_)
  · skip
    have h3 := cI_ltT (a := 3) (b := 6) hs rfl (by omega) (by omega) h3
    show aw_W _ _ _ _ (6, [some (.ref 25), some (.ref 19)], []) (ae_rd σ α (ae_tx 2) (ae_tlL σ α z t0 [t1, t2]))
    refine aw_go 7 rfl ⟨trivial, trivial, trivial, trivial, trivial, trivial, trivial, trivial⟩ ?_
    show aw_W _ _ _ _ (13, [some (.ref 25), some (.ref 19)], [.ref 19, .ref 82, .ref 82, .int (σ 15), .ref 26]) (ae_rd σ α (ae_tx 2) (ae_tlL σ α z t0 [t1, t2] ++ [.inr (5, [.null, .null])]))
    refine aw_call rfl rfl (ev_Steps_2  hc hc160) ?_
    rintro _ _ ⟨rfl, rfl⟩
    show aw_W _ _ _ _ (14, [some (.ref 25), some (.ref 19)], [.ref 82, .int (σ 15), .ref 26]) (ae_rd σ α (ae_tx 2) (ae_tlL σ α z t0 [t1, t2] ++ [.inr (5, [.ref 84, .ref 83]), .inl (0, 3, .inl (va_cpy (α 20) (fun _ => 0) 0 0 3)), .inl (0, c, .inl (va_cpy (α 19) (fun _ => 0) 0 0 c))]))
    refine aw_go 1 rfl ⟨(cI_in (a := 3) hs (by omega) (by decide)), trivial⟩ ?_
    show aw_W _ _ _ _ (15, [some (.ref 25), some (.ref 19)], []) (ae_rd σ α (va_up (ae_tx 2) (σ 15).toNatClampNeg (some 82)) (ae_tlL σ α z t0 [t1, t2] ++ [.inr (5, [.ref 84, .ref 83]), .inl (0, 3, .inl (va_cpy (α 20) (fun _ => 0) 0 0 3)), .inl (0, c, .inl (va_cpy (α 19) (fun _ => 0) 0 0 c))]))
    rw [show (σ 15).toNatClampNeg = 3 from cI_cl (a := 3) hs (by omega)]
    rw [show va_up (ae_tx 2) 3 (some 82) = ae_tx 3 from tx_up 2]
    refine aw_go 6 rfl ⟨trivial, trivial, trivial, trivial, trivial, trivial, trivial⟩ ?_
    show aw_W _ _ _ _ (21, [some (.ref 25), some (.ref 19)], []) (ae_rd (au σ [(15, (σ 15) + 1)]) α (ae_tx 3) (ae_tlL σ α z t0 [t1, t2] ++ [.inr (5, [.ref 84, .ref 83]), .inl (0, 3, .inl (va_cpy (α 20) (fun _ => 0) 0 0 3)), .inl (0, c, .inl (va_cpy (α 19) (fun _ => 0) 0 0 c))]))
    rw [show (σ 15) + 1 = nI 4 from cI_add hs rfl]
    refine aw_go 4 rfl ⟨trivial, trivial, trivial, trivial, trivial⟩ ?_
    show aw_W _ _ _ _ (25, [some (.ref 25), some (.ref 19)], [.int ((nI 4) - 1)]) (ae_rd (au σ [(15, nI 4)]) α (ae_tx 3) (ae_tlL σ α z t0 [t1, t2] ++ [.inr (5, [.ref 84, .ref 83]), .inl (0, 3, .inl (va_cpy (α 20) (fun _ => 0) 0 0 3)), .inl (0, c, .inl (va_cpy (α 19) (fun _ => 0) 0 0 c))]))
    rw [show (nI 4) - 1 = nI (4 - 1) from (cI_sub (a := 4) (b := 1) rfl rfl (by omega))]
    refine aw_ret rfl rfl trivial ?_
    exact ⟨rfl, rfl⟩
  · skip
    have h3 := cI_ltF (a := 3) (b := 6) hs rfl (by omega) (by omega) h3
    show aw_W _ _ _ _ (4, [some (.ref 25), some (.ref 19)], []) (ae_rd σ α (ae_tx 2) (ae_tlL σ α z t0 [t1, t2]))
    exact absurd h3 (by omega)
end L392
section L393
variable {P : ae_P} {σ : Nat → Int32} {α : Nat → Nat → Int32} {z : Int64} {t0 : ae_T}
theorem ev_Steps_3 {t1 t2 t3 : ae_T} {c zd : Nat} (hc : (σ 14) = nI c) (hc160 : c ≤ 160) : aw_X P (zd + 1) 97 [.ref 85, .ref 19] (ae_rd σ α (ae_tx 3) (ae_tlL σ α z t0 [t1, t2, t3] ++ [.inr (5, [.null, .null])])) (fun r H => r = none ∧ H = (ae_rd σ α (ae_tx 3) (ae_tlL σ α z t0 [t1, t2, t3] ++ [.inr (5, [.ref 87, .ref 86]), .inl (0, 3, .inl (va_cpy (α 20) (fun _ => 0) 0 0 3)), .inl (0, c, .inl (va_cpy (α 19) (fun _ => 0) 0 0 c))]))) := by
  refine aw_ev (cd := cd_Steps_init) rfl rfl rfl ?_
  show aw_W _ _ _ _ (0, [some (.ref 85), some (.ref 19)], []) (ae_rd σ α (ae_tx 3) (ae_tlL σ α z t0 [t1, t2, t3] ++ [.inr (5, [.null, .null])]))
  refine aw_go 11 rfl ⟨trivial, trivial, trivial, trivial, (na_ok (n := 3) rfl (by decide)), trivial, trivial, trivial, trivial, (na_ok hc (by omega)), trivial, trivial⟩ ?_
  show aw_W _ _ _ _ (11, [some (.ref 85), some (.ref 19)], []) (ae_rd σ α (ae_tx 3) (ae_tlL σ α z t0 [t1, t2, t3] ++ [.inr (5, [.ref 87, .ref 86]), .inl (0, (3 : Int32).toNatClampNeg, .inl (fun _ => 0)), .inl (0, (σ 14).toNatClampNeg, .inl (fun _ => 0))]))
  rw [show (3 : Int32).toNatClampNeg = 3 from cI_cl (a := 3) rfl (by omega)]
  rw [show (σ 14).toNatClampNeg = c from cI_cl (a := c) hc (by omega)]
  refine aw_go 18 rfl ⟨trivial, trivial, trivial, trivial, trivial, trivial, trivial, trivial, trivial, (cp3 (by omega) (by omega) (by omega)), trivial, trivial, trivial, trivial, trivial, trivial, trivial, (cp0 (n := 3) (by decide) (by decide) (by decide)), trivial⟩ ?_
  show aw_W _ _ _ _ (29, [some (.ref 85), some (.ref 19)], []) (ae_rd σ α (ae_tx 3) (ae_tlL σ α z t0 [t1, t2, t3] ++ [.inr (5, [.ref 87, .ref 86]), .inl (0, 3, .inl (va_cpy (α 20) (fun _ => 0) (0 : Int32).toNatClampNeg (0 : Int32).toNatClampNeg (3 : Int32).toNatClampNeg)), .inl (0, c, .inl (va_cpy (α 19) (fun _ => 0) (0 : Int32).toNatClampNeg (0 : Int32).toNatClampNeg (Int32.ofNat c).toNatClampNeg))]))
  rw [show (0 : Int32).toNatClampNeg = 0 from cI_cl (a := 0) rfl (by omega)]
  rw [show (Int32.ofNat c).toNatClampNeg = c from cI_cl (a := c) rfl (by omega)]
  rw [show (3 : Int32).toNatClampNeg = 3 from cI_cl (a := 3) rfl (by omega)]
  refine aw_ret rfl rfl trivial ?_
  exact ⟨rfl, rfl⟩
theorem ev_keep_3 {t1 t2 t3 : ae_T} {c zd : Nat} (hs : (σ 15) = nI 4) (hc : (σ 14) = nI c) (hc160 : c ≤ 160) : aw_X P (zd + 2) 88 [.ref 25, .ref 19] (ae_rd σ α (ae_tx 3) (ae_tlL σ α z t0 [t1, t2, t3])) (fun r H => r = some (.int (nI 4)) ∧ H = ae_rd (au σ [(15, nI 5)]) α (ae_tx 4) (ae_tlL σ α z t0 [t1, t2, t3] ++ [.inr (5, [.ref 87, .ref 86]), .inl (0, 3, .inl (va_cpy (α 20) (fun _ => 0) 0 0 3)), .inl (0, c, .inl (va_cpy (α 19) (fun _ => 0) 0 0 c))])) := by
  refine aw_ev (cd := cd_Rules_keep) rfl rfl rfl ?_
  show aw_W _ _ _ _ (0, [some (.ref 25), some (.ref 19)], []) (ae_rd σ α (ae_tx 3) (ae_tlL σ α z t0 [t1, t2, t3]))
  refine aw_go 4 rfl ⟨trivial, trivial, trivial, trivial, trivial⟩ ?_
  show aw_W _ _ _ _ (if (σ 15) < 6 then 6 else 4, [some (.ref 25), some (.ref 19)], []) (ae_rd σ α (ae_tx 3) (ae_tlL σ α z t0 [t1, t2, t3]))
  refine aw_br (c := (σ 15) < 6) (fun h3 => ?_) (fun h3 => ?_)
  · skip
    have h3 := cI_ltT (a := 4) (b := 6) hs rfl (by omega) (by omega) h3
    show aw_W _ _ _ _ (6, [some (.ref 25), some (.ref 19)], []) (ae_rd σ α (ae_tx 3) (ae_tlL σ α z t0 [t1, t2, t3]))
    refine aw_go 7 rfl ⟨trivial, trivial, trivial, trivial, trivial, trivial, trivial, trivial⟩ ?_
    show aw_W _ _ _ _ (13, [some (.ref 25), some (.ref 19)], [.ref 19, .ref 85, .ref 85, .int (σ 15), .ref 26]) (ae_rd σ α (ae_tx 3) (ae_tlL σ α z t0 [t1, t2, t3] ++ [.inr (5, [.null, .null])]))
    refine aw_call rfl rfl (ev_Steps_3  hc hc160) ?_
    rintro _ _ ⟨rfl, rfl⟩
    show aw_W _ _ _ _ (14, [some (.ref 25), some (.ref 19)], [.ref 85, .int (σ 15), .ref 26]) (ae_rd σ α (ae_tx 3) (ae_tlL σ α z t0 [t1, t2, t3] ++ [.inr (5, [.ref 87, .ref 86]), .inl (0, 3, .inl (va_cpy (α 20) (fun _ => 0) 0 0 3)), .inl (0, c, .inl (va_cpy (α 19) (fun _ => 0) 0 0 c))]))
    refine aw_go 1 rfl ⟨(cI_in (a := 4) hs (by omega) (by decide)), trivial⟩ ?_
    show aw_W _ _ _ _ (15, [some (.ref 25), some (.ref 19)], []) (ae_rd σ α (va_up (ae_tx 3) (σ 15).toNatClampNeg (some 85)) (ae_tlL σ α z t0 [t1, t2, t3] ++ [.inr (5, [.ref 87, .ref 86]), .inl (0, 3, .inl (va_cpy (α 20) (fun _ => 0) 0 0 3)), .inl (0, c, .inl (va_cpy (α 19) (fun _ => 0) 0 0 c))]))
    rw [show (σ 15).toNatClampNeg = 4 from cI_cl (a := 4) hs (by omega)]
    rw [show va_up (ae_tx 3) 4 (some 85) = ae_tx 4 from tx_up 3]
    refine aw_go 6 rfl ⟨trivial, trivial, trivial, trivial, trivial, trivial, trivial⟩ ?_
    show aw_W _ _ _ _ (21, [some (.ref 25), some (.ref 19)], []) (ae_rd (au σ [(15, (σ 15) + 1)]) α (ae_tx 4) (ae_tlL σ α z t0 [t1, t2, t3] ++ [.inr (5, [.ref 87, .ref 86]), .inl (0, 3, .inl (va_cpy (α 20) (fun _ => 0) 0 0 3)), .inl (0, c, .inl (va_cpy (α 19) (fun _ => 0) 0 0 c))]))
    rw [show (σ 15) + 1 = nI 5 from cI_add hs rfl]
    refine aw_go 4 rfl ⟨trivial, trivial, trivial, trivial, trivial⟩ ?_
    show aw_W _ _ _ _ (25, [some (.ref 25), some (.ref 19)], [.int ((nI 5) - 1)]) (ae_rd (au σ [(15, nI 5)]) α (ae_tx 4) (ae_tlL σ α z t0 [t1, t2, t3] ++ [.inr (5, [.ref 87, .ref 86]), .inl (0, 3, .inl (va_cpy (α 20) (fun _ => 0) 0 0 3)), .inl (0, c, .inl (va_cpy (α 19) (fun _ => 0) 0 0 c))]))
    rw [show (nI 5) - 1 = nI (5 - 1) from (cI_sub (a := 5) (b := 1) rfl rfl (by omega))]
    refine aw_ret rfl rfl trivial ?_
    exact ⟨rfl, rfl⟩
  · skip
    have h3 := cI_ltF (a := 4) (b := 6) hs rfl (by omega) (by omega) h3
    show aw_W _ _ _ _ (4, [some (.ref 25), some (.ref 19)], []) (ae_rd σ α (ae_tx 3) (ae_tlL σ α z t0 [t1, t2, t3]))
    exact absurd h3 (by omega)
end L393
section L394
variable {P : ae_P} {σ : Nat → Int32} {α : Nat → Nat → Int32} {z : Int64} {t0 : ae_T}
theorem ev_Steps_4 {t1 t2 t3 t4 : ae_T} {c zd : Nat} (hc : (σ 14) = nI c) (hc160 : c ≤ 160) : aw_X P (zd + 1) 97 [.ref 88, .ref 19] (ae_rd σ α (ae_tx 4) (ae_tlL σ α z t0 [t1, t2, t3, t4] ++ [.inr (5, [.null, .null])])) (fun r H => r = none ∧ H = (ae_rd σ α (ae_tx 4) (ae_tlL σ α z t0 [t1, t2, t3, t4] ++ [.inr (5, [.ref 90, .ref 89]), .inl (0, 3, .inl (va_cpy (α 20) (fun _ => 0) 0 0 3)), .inl (0, c, .inl (va_cpy (α 19) (fun _ => 0) 0 0 c))]))) := by
  refine aw_ev (cd := cd_Steps_init) rfl rfl rfl ?_
  show aw_W _ _ _ _ (0, [some (.ref 88), some (.ref 19)], []) (ae_rd σ α (ae_tx 4) (ae_tlL σ α z t0 [t1, t2, t3, t4] ++ [.inr (5, [.null, .null])]))
  refine aw_go 11 rfl ⟨trivial, trivial, trivial, trivial, (na_ok (n := 3) rfl (by decide)), trivial, trivial, trivial, trivial, (na_ok hc (by omega)), trivial, trivial⟩ ?_
  show aw_W _ _ _ _ (11, [some (.ref 88), some (.ref 19)], []) (ae_rd σ α (ae_tx 4) (ae_tlL σ α z t0 [t1, t2, t3, t4] ++ [.inr (5, [.ref 90, .ref 89]), .inl (0, (3 : Int32).toNatClampNeg, .inl (fun _ => 0)), .inl (0, (σ 14).toNatClampNeg, .inl (fun _ => 0))]))
  rw [show (3 : Int32).toNatClampNeg = 3 from cI_cl (a := 3) rfl (by omega)]
  rw [show (σ 14).toNatClampNeg = c from cI_cl (a := c) hc (by omega)]
  refine aw_go 18 rfl ⟨trivial, trivial, trivial, trivial, trivial, trivial, trivial, trivial, trivial, (cp3 (by omega) (by omega) (by omega)), trivial, trivial, trivial, trivial, trivial, trivial, trivial, (cp0 (n := 3) (by decide) (by decide) (by decide)), trivial⟩ ?_
  show aw_W _ _ _ _ (29, [some (.ref 88), some (.ref 19)], []) (ae_rd σ α (ae_tx 4) (ae_tlL σ α z t0 [t1, t2, t3, t4] ++ [.inr (5, [.ref 90, .ref 89]), .inl (0, 3, .inl (va_cpy (α 20) (fun _ => 0) (0 : Int32).toNatClampNeg (0 : Int32).toNatClampNeg (3 : Int32).toNatClampNeg)), .inl (0, c, .inl (va_cpy (α 19) (fun _ => 0) (0 : Int32).toNatClampNeg (0 : Int32).toNatClampNeg (Int32.ofNat c).toNatClampNeg))]))
  rw [show (0 : Int32).toNatClampNeg = 0 from cI_cl (a := 0) rfl (by omega)]
  rw [show (Int32.ofNat c).toNatClampNeg = c from cI_cl (a := c) rfl (by omega)]
  rw [show (3 : Int32).toNatClampNeg = 3 from cI_cl (a := 3) rfl (by omega)]
  refine aw_ret rfl rfl trivial ?_
  exact ⟨rfl, rfl⟩
theorem ev_keep_4 {t1 t2 t3 t4 : ae_T} {c zd : Nat} (hs : (σ 15) = nI 5) (hc : (σ 14) = nI c) (hc160 : c ≤ 160) : aw_X P (zd + 2) 88 [.ref 25, .ref 19] (ae_rd σ α (ae_tx 4) (ae_tlL σ α z t0 [t1, t2, t3, t4])) (fun r H => r = some (.int (nI 5)) ∧ H = ae_rd (au σ [(15, nI 6)]) α (ae_tx 5) (ae_tlL σ α z t0 [t1, t2, t3, t4] ++ [.inr (5, [.ref 90, .ref 89]), .inl (0, 3, .inl (va_cpy (α 20) (fun _ => 0) 0 0 3)), .inl (0, c, .inl (va_cpy (α 19) (fun _ => 0) 0 0 c))])) := by
  refine aw_ev (cd := cd_Rules_keep) rfl rfl rfl ?_
  show aw_W _ _ _ _ (0, [some (.ref 25), some (.ref 19)], []) (ae_rd σ α (ae_tx 4) (ae_tlL σ α z t0 [t1, t2, t3, t4]))
  refine aw_go 4 rfl ⟨trivial, trivial, trivial, trivial, trivial⟩ ?_
  show aw_W _ _ _ _ (if (σ 15) < 6 then 6 else 4, [some (.ref 25), some (.ref 19)], []) (ae_rd σ α (ae_tx 4) (ae_tlL σ α z t0 [t1, t2, t3, t4]))
  refine aw_br (c := (σ 15) < 6) (fun h3 => ?_) (fun h3 => ?_)
  · skip
    have h3 := cI_ltT (a := 5) (b := 6) hs rfl (by omega) (by omega) h3
    show aw_W _ _ _ _ (6, [some (.ref 25), some (.ref 19)], []) (ae_rd σ α (ae_tx 4) (ae_tlL σ α z t0 [t1, t2, t3, t4]))
    refine aw_go 7 rfl ⟨trivial, trivial, trivial, trivial, trivial, trivial, trivial, trivial⟩ ?_
    show aw_W _ _ _ _ (13, [some (.ref 25), some (.ref 19)], [.ref 19, .ref 88, .ref 88, .int (σ 15), .ref 26]) (ae_rd σ α (ae_tx 4) (ae_tlL σ α z t0 [t1, t2, t3, t4] ++ [.inr (5, [.null, .null])]))
    refine aw_call rfl rfl (ev_Steps_4  hc hc160) ?_
    rintro _ _ ⟨rfl, rfl⟩
    show aw_W _ _ _ _ (14, [some (.ref 25), some (.ref 19)], [.ref 88, .int (σ 15), .ref 26]) (ae_rd σ α (ae_tx 4) (ae_tlL σ α z t0 [t1, t2, t3, t4] ++ [.inr (5, [.ref 90, .ref 89]), .inl (0, 3, .inl (va_cpy (α 20) (fun _ => 0) 0 0 3)), .inl (0, c, .inl (va_cpy (α 19) (fun _ => 0) 0 0 c))]))
    refine aw_go 1 rfl ⟨(cI_in (a := 5) hs (by omega) (by decide)), trivial⟩ ?_
    show aw_W _ _ _ _ (15, [some (.ref 25), some (.ref 19)], []) (ae_rd σ α (va_up (ae_tx 4) (σ 15).toNatClampNeg (some 88)) (ae_tlL σ α z t0 [t1, t2, t3, t4] ++ [.inr (5, [.ref 90, .ref 89]), .inl (0, 3, .inl (va_cpy (α 20) (fun _ => 0) 0 0 3)), .inl (0, c, .inl (va_cpy (α 19) (fun _ => 0) 0 0 c))]))
    rw [show (σ 15).toNatClampNeg = 5 from cI_cl (a := 5) hs (by omega)]
    rw [show va_up (ae_tx 4) 5 (some 88) = ae_tx 5 from tx_up 4]
    refine aw_go 6 rfl ⟨trivial, trivial, trivial, trivial, trivial, trivial, trivial⟩ ?_
    show aw_W _ _ _ _ (21, [some (.ref 25), some (.ref 19)], []) (ae_rd (au σ [(15, (σ 15) + 1)]) α (ae_tx 5) (ae_tlL σ α z t0 [t1, t2, t3, t4] ++ [.inr (5, [.ref 90, .ref 89]), .inl (0, 3, .inl (va_cpy (α 20) (fun _ => 0) 0 0 3)), .inl (0, c, .inl (va_cpy (α 19) (fun _ => 0) 0 0 c))]))
    rw [show (σ 15) + 1 = nI 6 from cI_add hs rfl]
    refine aw_go 4 rfl ⟨trivial, trivial, trivial, trivial, trivial⟩ ?_
    show aw_W _ _ _ _ (25, [some (.ref 25), some (.ref 19)], [.int ((nI 6) - 1)]) (ae_rd (au σ [(15, nI 6)]) α (ae_tx 5) (ae_tlL σ α z t0 [t1, t2, t3, t4] ++ [.inr (5, [.ref 90, .ref 89]), .inl (0, 3, .inl (va_cpy (α 20) (fun _ => 0) 0 0 3)), .inl (0, c, .inl (va_cpy (α 19) (fun _ => 0) 0 0 c))]))
    rw [show (nI 6) - 1 = nI (6 - 1) from (cI_sub (a := 6) (b := 1) rfl rfl (by omega))]
    refine aw_ret rfl rfl trivial ?_
    exact ⟨rfl, rfl⟩
  · skip
    have h3 := cI_ltF (a := 5) (b := 6) hs rfl (by omega) (by omega) h3
    show aw_W _ _ _ _ (4, [some (.ref 25), some (.ref 19)], []) (ae_rd σ α (ae_tx 4) (ae_tlL σ α z t0 [t1, t2, t3, t4]))
    exact absurd h3 (by omega)
end L394
