/-! the reference's grammar: what a token is -/
theorem nI_nneg {v : Nat} (h : v < 2 ^ 31) : ¬ nI v < 0 := nI_pos h
theorem nI_nc {v : Nat} {c : Int32} (h : v < 2 ^ 31) (hc : c < 0) : ¬ nI v = c := fun q => nI_nneg h (by rw [q]; exact hc)
theorem nI_n10 {v c : Nat} (h : v < 6) (hc : 10 ≤ c) (hc2 : c < 100) : ¬ nI v = nI c := fun q => by have := cI_eqT (a := v) (b := c) rfl rfl (by omega) (by omega) q; omega
theorem tk_s40 {so iz t : Int32} (h : tokR so iz t) : (so = 3 ∧ iz = 40) ↔ t = -9 := by
  rcases h with ⟨v, hv, rfl, rfl, rfl⟩ | ⟨v, hv, rfl, rfl, rfl⟩ | ⟨rfl, rfl, rfl⟩ | ⟨rfl, rfl, rfl⟩ | ⟨rfl, rfl, rfl⟩ | ⟨rfl, rfl, rfl⟩ | ⟨rfl, rfl, rfl⟩ | ⟨rfl, rfl, rfl⟩ | ⟨rfl, rfl, rfl⟩ | ⟨rfl, rfl, rfl⟩ | ⟨rfl, rfl, rfl⟩ | ⟨rfl, rfl, rfl⟩ | ⟨rfl, rfl, rfl⟩ | ⟨rfl, rfl, rfl⟩ | ⟨rfl, rfl, rfl⟩ | ⟨rfl, rfl, rfl⟩ | ⟨rfl, rfl⟩ | ⟨rfl, rfl⟩
  · exact ⟨fun q => absurd q.1 (by decide), fun q => absurd q (nI_nc (by omega) (by decide))⟩
  · exact ⟨fun q => absurd q.1 (by decide), fun q => absurd q (nI_nc (by omega) (by decide))⟩
  · decide
  · decide
  · decide
  · decide
  · decide
  · decide
  · decide
  · decide
  · decide
  · decide
  · decide
  · decide
  · decide
  · decide
  · exact ⟨fun q => absurd q.1 (by decide), fun q => absurd q (by decide)⟩
  · exact ⟨fun q => absurd q.1 (by decide), fun q => absurd q (by decide)⟩
theorem tk_s41 {so iz t : Int32} (h : tokR so iz t) : (so = 3 ∧ iz = 41) ↔ t = -10 := by
  rcases h with ⟨v, hv, rfl, rfl, rfl⟩ | ⟨v, hv, rfl, rfl, rfl⟩ | ⟨rfl, rfl, rfl⟩ | ⟨rfl, rfl, rfl⟩ | ⟨rfl, rfl, rfl⟩ | ⟨rfl, rfl, rfl⟩ | ⟨rfl, rfl, rfl⟩ | ⟨rfl, rfl, rfl⟩ | ⟨rfl, rfl, rfl⟩ | ⟨rfl, rfl, rfl⟩ | ⟨rfl, rfl, rfl⟩ | ⟨rfl, rfl, rfl⟩ | ⟨rfl, rfl, rfl⟩ | ⟨rfl, rfl, rfl⟩ | ⟨rfl, rfl, rfl⟩ | ⟨rfl, rfl, rfl⟩ | ⟨rfl, rfl⟩ | ⟨rfl, rfl⟩
  · exact ⟨fun q => absurd q.1 (by decide), fun q => absurd q (nI_nc (by omega) (by decide))⟩
  · exact ⟨fun q => absurd q.1 (by decide), fun q => absurd q (nI_nc (by omega) (by decide))⟩
  · decide
  · decide
  · decide
  · decide
  · decide
  · decide
  · decide
  · decide
  · decide
  · decide
  · decide
  · decide
  · decide
  · decide
  · exact ⟨fun q => absurd q.1 (by decide), fun q => absurd q (by decide)⟩
  · exact ⟨fun q => absurd q.1 (by decide), fun q => absurd q (by decide)⟩
theorem tk_s42 {so iz t : Int32} (h : tokR so iz t) : (so = 3 ∧ iz = 42) ↔ t = -8 := by
  rcases h with ⟨v, hv, rfl, rfl, rfl⟩ | ⟨v, hv, rfl, rfl, rfl⟩ | ⟨rfl, rfl, rfl⟩ | ⟨rfl, rfl, rfl⟩ | ⟨rfl, rfl, rfl⟩ | ⟨rfl, rfl, rfl⟩ | ⟨rfl, rfl, rfl⟩ | ⟨rfl, rfl, rfl⟩ | ⟨rfl, rfl, rfl⟩ | ⟨rfl, rfl, rfl⟩ | ⟨rfl, rfl, rfl⟩ | ⟨rfl, rfl, rfl⟩ | ⟨rfl, rfl, rfl⟩ | ⟨rfl, rfl, rfl⟩ | ⟨rfl, rfl, rfl⟩ | ⟨rfl, rfl, rfl⟩ | ⟨rfl, rfl⟩ | ⟨rfl, rfl⟩
  · exact ⟨fun q => absurd q.1 (by decide), fun q => absurd q (nI_nc (by omega) (by decide))⟩
  · exact ⟨fun q => absurd q.1 (by decide), fun q => absurd q (nI_nc (by omega) (by decide))⟩
  · decide
  · decide
  · decide
  · decide
  · decide
  · decide
  · decide
  · decide
  · decide
  · decide
  · decide
  · decide
  · decide
  · decide
  · exact ⟨fun q => absurd q.1 (by decide), fun q => absurd q (by decide)⟩
  · exact ⟨fun q => absurd q.1 (by decide), fun q => absurd q (by decide)⟩
theorem tk_s43 {so iz t : Int32} (h : tokR so iz t) : (so = 3 ∧ iz = 43) ↔ t = -6 := by
  rcases h with ⟨v, hv, rfl, rfl, rfl⟩ | ⟨v, hv, rfl, rfl, rfl⟩ | ⟨rfl, rfl, rfl⟩ | ⟨rfl, rfl, rfl⟩ | ⟨rfl, rfl, rfl⟩ | ⟨rfl, rfl, rfl⟩ | ⟨rfl, rfl, rfl⟩ | ⟨rfl, rfl, rfl⟩ | ⟨rfl, rfl, rfl⟩ | ⟨rfl, rfl, rfl⟩ | ⟨rfl, rfl, rfl⟩ | ⟨rfl, rfl, rfl⟩ | ⟨rfl, rfl, rfl⟩ | ⟨rfl, rfl, rfl⟩ | ⟨rfl, rfl, rfl⟩ | ⟨rfl, rfl, rfl⟩ | ⟨rfl, rfl⟩ | ⟨rfl, rfl⟩
  · exact ⟨fun q => absurd q.1 (by decide), fun q => absurd q (nI_nc (by omega) (by decide))⟩
  · exact ⟨fun q => absurd q.1 (by decide), fun q => absurd q (nI_nc (by omega) (by decide))⟩
  · decide
  · decide
  · decide
  · decide
  · decide
  · decide
  · decide
  · decide
  · decide
  · decide
  · decide
  · decide
  · decide
  · decide
  · exact ⟨fun q => absurd q.1 (by decide), fun q => absurd q (by decide)⟩
  · exact ⟨fun q => absurd q.1 (by decide), fun q => absurd q (by decide)⟩
theorem tk_s45 {so iz t : Int32} (h : tokR so iz t) : (so = 3 ∧ iz = 45) ↔ t = -7 := by
  rcases h with ⟨v, hv, rfl, rfl, rfl⟩ | ⟨v, hv, rfl, rfl, rfl⟩ | ⟨rfl, rfl, rfl⟩ | ⟨rfl, rfl, rfl⟩ | ⟨rfl, rfl, rfl⟩ | ⟨rfl, rfl, rfl⟩ | ⟨rfl, rfl, rfl⟩ | ⟨rfl, rfl, rfl⟩ | ⟨rfl, rfl, rfl⟩ | ⟨rfl, rfl, rfl⟩ | ⟨rfl, rfl, rfl⟩ | ⟨rfl, rfl, rfl⟩ | ⟨rfl, rfl, rfl⟩ | ⟨rfl, rfl, rfl⟩ | ⟨rfl, rfl, rfl⟩ | ⟨rfl, rfl, rfl⟩ | ⟨rfl, rfl⟩ | ⟨rfl, rfl⟩
  · exact ⟨fun q => absurd q.1 (by decide), fun q => absurd q (nI_nc (by omega) (by decide))⟩
  · exact ⟨fun q => absurd q.1 (by decide), fun q => absurd q (nI_nc (by omega) (by decide))⟩
  · decide
  · decide
  · decide
  · decide
  · decide
  · decide
  · decide
  · decide
  · decide
  · decide
  · decide
  · decide
  · decide
  · decide
  · exact ⟨fun q => absurd q.1 (by decide), fun q => absurd q (by decide)⟩
  · exact ⟨fun q => absurd q.1 (by decide), fun q => absurd q (by decide)⟩
theorem tk_s59 {so iz t : Int32} (h : tokR so iz t) : (so = 3 ∧ iz = 59) ↔ t = -11 := by
  rcases h with ⟨v, hv, rfl, rfl, rfl⟩ | ⟨v, hv, rfl, rfl, rfl⟩ | ⟨rfl, rfl, rfl⟩ | ⟨rfl, rfl, rfl⟩ | ⟨rfl, rfl, rfl⟩ | ⟨rfl, rfl, rfl⟩ | ⟨rfl, rfl, rfl⟩ | ⟨rfl, rfl, rfl⟩ | ⟨rfl, rfl, rfl⟩ | ⟨rfl, rfl, rfl⟩ | ⟨rfl, rfl, rfl⟩ | ⟨rfl, rfl, rfl⟩ | ⟨rfl, rfl, rfl⟩ | ⟨rfl, rfl, rfl⟩ | ⟨rfl, rfl, rfl⟩ | ⟨rfl, rfl, rfl⟩ | ⟨rfl, rfl⟩ | ⟨rfl, rfl⟩
  · exact ⟨fun q => absurd q.1 (by decide), fun q => absurd q (nI_nc (by omega) (by decide))⟩
  · exact ⟨fun q => absurd q.1 (by decide), fun q => absurd q (nI_nc (by omega) (by decide))⟩
  · decide
  · decide
  · decide
  · decide
  · decide
  · decide
  · decide
  · decide
  · decide
  · decide
  · decide
  · decide
  · decide
  · decide
  · exact ⟨fun q => absurd q.1 (by decide), fun q => absurd q (by decide)⟩
  · exact ⟨fun q => absurd q.1 (by decide), fun q => absurd q (by decide)⟩
theorem tk_s60 {so iz t : Int32} (h : tokR so iz t) : (so = 3 ∧ iz = 60) ↔ t = -4 := by
  rcases h with ⟨v, hv, rfl, rfl, rfl⟩ | ⟨v, hv, rfl, rfl, rfl⟩ | ⟨rfl, rfl, rfl⟩ | ⟨rfl, rfl, rfl⟩ | ⟨rfl, rfl, rfl⟩ | ⟨rfl, rfl, rfl⟩ | ⟨rfl, rfl, rfl⟩ | ⟨rfl, rfl, rfl⟩ | ⟨rfl, rfl, rfl⟩ | ⟨rfl, rfl, rfl⟩ | ⟨rfl, rfl, rfl⟩ | ⟨rfl, rfl, rfl⟩ | ⟨rfl, rfl, rfl⟩ | ⟨rfl, rfl, rfl⟩ | ⟨rfl, rfl, rfl⟩ | ⟨rfl, rfl, rfl⟩ | ⟨rfl, rfl⟩ | ⟨rfl, rfl⟩
  · exact ⟨fun q => absurd q.1 (by decide), fun q => absurd q (nI_nc (by omega) (by decide))⟩
  · exact ⟨fun q => absurd q.1 (by decide), fun q => absurd q (nI_nc (by omega) (by decide))⟩
  · decide
  · decide
  · decide
  · decide
  · decide
  · decide
  · decide
  · decide
  · decide
  · decide
  · decide
  · decide
  · decide
  · decide
  · exact ⟨fun q => absurd q.1 (by decide), fun q => absurd q (by decide)⟩
  · exact ⟨fun q => absurd q.1 (by decide), fun q => absurd q (by decide)⟩
theorem tk_s61 {so iz t : Int32} (h : tokR so iz t) : (so = 3 ∧ iz = 61) ↔ t = -5 := by
  rcases h with ⟨v, hv, rfl, rfl, rfl⟩ | ⟨v, hv, rfl, rfl, rfl⟩ | ⟨rfl, rfl, rfl⟩ | ⟨rfl, rfl, rfl⟩ | ⟨rfl, rfl, rfl⟩ | ⟨rfl, rfl, rfl⟩ | ⟨rfl, rfl, rfl⟩ | ⟨rfl, rfl, rfl⟩ | ⟨rfl, rfl, rfl⟩ | ⟨rfl, rfl, rfl⟩ | ⟨rfl, rfl, rfl⟩ | ⟨rfl, rfl, rfl⟩ | ⟨rfl, rfl, rfl⟩ | ⟨rfl, rfl, rfl⟩ | ⟨rfl, rfl, rfl⟩ | ⟨rfl, rfl, rfl⟩ | ⟨rfl, rfl⟩ | ⟨rfl, rfl⟩
  · exact ⟨fun q => absurd q.1 (by decide), fun q => absurd q (nI_nc (by omega) (by decide))⟩
  · exact ⟨fun q => absurd q.1 (by decide), fun q => absurd q (nI_nc (by omega) (by decide))⟩
  · decide
  · decide
  · decide
  · decide
  · decide
  · decide
  · decide
  · decide
  · decide
  · decide
  · decide
  · decide
  · decide
  · decide
  · exact ⟨fun q => absurd q.1 (by decide), fun q => absurd q (by decide)⟩
  · exact ⟨fun q => absurd q.1 (by decide), fun q => absurd q (by decide)⟩
theorem tk_k10 {so iz t : Int32} (h : tokR so iz t) : (so = 1 ∧ iz = 10) ↔ t = -13 := by
  rcases h with ⟨v, hv, rfl, rfl, rfl⟩ | ⟨v, hv, rfl, rfl, rfl⟩ | ⟨rfl, rfl, rfl⟩ | ⟨rfl, rfl, rfl⟩ | ⟨rfl, rfl, rfl⟩ | ⟨rfl, rfl, rfl⟩ | ⟨rfl, rfl, rfl⟩ | ⟨rfl, rfl, rfl⟩ | ⟨rfl, rfl, rfl⟩ | ⟨rfl, rfl, rfl⟩ | ⟨rfl, rfl, rfl⟩ | ⟨rfl, rfl, rfl⟩ | ⟨rfl, rfl, rfl⟩ | ⟨rfl, rfl, rfl⟩ | ⟨rfl, rfl, rfl⟩ | ⟨rfl, rfl, rfl⟩ | ⟨rfl, rfl⟩ | ⟨rfl, rfl⟩
  · exact ⟨fun q => absurd q.1 (by decide), fun q => absurd q (nI_nc (by omega) (by decide))⟩
  · exact ⟨fun q => absurd q.2 (nI_n10 (c := 10) hv (by omega) (by omega)), fun q => absurd q (nI_nc (by omega) (by decide))⟩
  · decide
  · decide
  · decide
  · decide
  · decide
  · decide
  · decide
  · decide
  · decide
  · decide
  · decide
  · decide
  · decide
  · decide
  · exact ⟨fun q => absurd q.1 (by decide), fun q => absurd q (by decide)⟩
  · exact ⟨fun q => absurd q.1 (by decide), fun q => absurd q (by decide)⟩
theorem tk_k11 {so iz t : Int32} (h : tokR so iz t) : (so = 1 ∧ iz = 11) ↔ t = -14 := by
  rcases h with ⟨v, hv, rfl, rfl, rfl⟩ | ⟨v, hv, rfl, rfl, rfl⟩ | ⟨rfl, rfl, rfl⟩ | ⟨rfl, rfl, rfl⟩ | ⟨rfl, rfl, rfl⟩ | ⟨rfl, rfl, rfl⟩ | ⟨rfl, rfl, rfl⟩ | ⟨rfl, rfl, rfl⟩ | ⟨rfl, rfl, rfl⟩ | ⟨rfl, rfl, rfl⟩ | ⟨rfl, rfl, rfl⟩ | ⟨rfl, rfl, rfl⟩ | ⟨rfl, rfl, rfl⟩ | ⟨rfl, rfl, rfl⟩ | ⟨rfl, rfl, rfl⟩ | ⟨rfl, rfl, rfl⟩ | ⟨rfl, rfl⟩ | ⟨rfl, rfl⟩
  · exact ⟨fun q => absurd q.1 (by decide), fun q => absurd q (nI_nc (by omega) (by decide))⟩
  · exact ⟨fun q => absurd q.2 (nI_n10 (c := 11) hv (by omega) (by omega)), fun q => absurd q (nI_nc (by omega) (by decide))⟩
  · decide
  · decide
  · decide
  · decide
  · decide
  · decide
  · decide
  · decide
  · decide
  · decide
  · decide
  · decide
  · decide
  · decide
  · exact ⟨fun q => absurd q.1 (by decide), fun q => absurd q (by decide)⟩
  · exact ⟨fun q => absurd q.1 (by decide), fun q => absurd q (by decide)⟩
theorem tk_k12 {so iz t : Int32} (h : tokR so iz t) : (so = 1 ∧ iz = 12) ↔ t = -15 := by
  rcases h with ⟨v, hv, rfl, rfl, rfl⟩ | ⟨v, hv, rfl, rfl, rfl⟩ | ⟨rfl, rfl, rfl⟩ | ⟨rfl, rfl, rfl⟩ | ⟨rfl, rfl, rfl⟩ | ⟨rfl, rfl, rfl⟩ | ⟨rfl, rfl, rfl⟩ | ⟨rfl, rfl, rfl⟩ | ⟨rfl, rfl, rfl⟩ | ⟨rfl, rfl, rfl⟩ | ⟨rfl, rfl, rfl⟩ | ⟨rfl, rfl, rfl⟩ | ⟨rfl, rfl, rfl⟩ | ⟨rfl, rfl, rfl⟩ | ⟨rfl, rfl, rfl⟩ | ⟨rfl, rfl, rfl⟩ | ⟨rfl, rfl⟩ | ⟨rfl, rfl⟩
  · exact ⟨fun q => absurd q.1 (by decide), fun q => absurd q (nI_nc (by omega) (by decide))⟩
  · exact ⟨fun q => absurd q.2 (nI_n10 (c := 12) hv (by omega) (by omega)), fun q => absurd q (nI_nc (by omega) (by decide))⟩
  · decide
  · decide
  · decide
  · decide
  · decide
  · decide
  · decide
  · decide
  · decide
  · decide
  · decide
  · decide
  · decide
  · decide
  · exact ⟨fun q => absurd q.1 (by decide), fun q => absurd q (by decide)⟩
  · exact ⟨fun q => absurd q.1 (by decide), fun q => absurd q (by decide)⟩
theorem tk_k13 {so iz t : Int32} (h : tokR so iz t) : (so = 1 ∧ iz = 13) ↔ t = -1 := by
  rcases h with ⟨v, hv, rfl, rfl, rfl⟩ | ⟨v, hv, rfl, rfl, rfl⟩ | ⟨rfl, rfl, rfl⟩ | ⟨rfl, rfl, rfl⟩ | ⟨rfl, rfl, rfl⟩ | ⟨rfl, rfl, rfl⟩ | ⟨rfl, rfl, rfl⟩ | ⟨rfl, rfl, rfl⟩ | ⟨rfl, rfl, rfl⟩ | ⟨rfl, rfl, rfl⟩ | ⟨rfl, rfl, rfl⟩ | ⟨rfl, rfl, rfl⟩ | ⟨rfl, rfl, rfl⟩ | ⟨rfl, rfl, rfl⟩ | ⟨rfl, rfl, rfl⟩ | ⟨rfl, rfl, rfl⟩ | ⟨rfl, rfl⟩ | ⟨rfl, rfl⟩
  · exact ⟨fun q => absurd q.1 (by decide), fun q => absurd q (nI_nc (by omega) (by decide))⟩
  · exact ⟨fun q => absurd q.2 (nI_n10 (c := 13) hv (by omega) (by omega)), fun q => absurd q (nI_nc (by omega) (by decide))⟩
  · decide
  · decide
  · decide
  · decide
  · decide
  · decide
  · decide
  · decide
  · decide
  · decide
  · decide
  · decide
  · decide
  · decide
  · exact ⟨fun q => absurd q.1 (by decide), fun q => absurd q (by decide)⟩
  · exact ⟨fun q => absurd q.1 (by decide), fun q => absurd q (by decide)⟩
theorem tk_k14 {so iz t : Int32} (h : tokR so iz t) : (so = 1 ∧ iz = 14) ↔ t = -2 := by
  rcases h with ⟨v, hv, rfl, rfl, rfl⟩ | ⟨v, hv, rfl, rfl, rfl⟩ | ⟨rfl, rfl, rfl⟩ | ⟨rfl, rfl, rfl⟩ | ⟨rfl, rfl, rfl⟩ | ⟨rfl, rfl, rfl⟩ | ⟨rfl, rfl, rfl⟩ | ⟨rfl, rfl, rfl⟩ | ⟨rfl, rfl, rfl⟩ | ⟨rfl, rfl, rfl⟩ | ⟨rfl, rfl, rfl⟩ | ⟨rfl, rfl, rfl⟩ | ⟨rfl, rfl, rfl⟩ | ⟨rfl, rfl, rfl⟩ | ⟨rfl, rfl, rfl⟩ | ⟨rfl, rfl, rfl⟩ | ⟨rfl, rfl⟩ | ⟨rfl, rfl⟩
  · exact ⟨fun q => absurd q.1 (by decide), fun q => absurd q (nI_nc (by omega) (by decide))⟩
  · exact ⟨fun q => absurd q.2 (nI_n10 (c := 14) hv (by omega) (by omega)), fun q => absurd q (nI_nc (by omega) (by decide))⟩
  · decide
  · decide
  · decide
  · decide
  · decide
  · decide
  · decide
  · decide
  · decide
  · decide
  · decide
  · decide
  · decide
  · decide
  · exact ⟨fun q => absurd q.1 (by decide), fun q => absurd q (by decide)⟩
  · exact ⟨fun q => absurd q.1 (by decide), fun q => absurd q (by decide)⟩
theorem tk_k15 {so iz t : Int32} (h : tokR so iz t) : (so = 1 ∧ iz = 15) ↔ t = -3 := by
  rcases h with ⟨v, hv, rfl, rfl, rfl⟩ | ⟨v, hv, rfl, rfl, rfl⟩ | ⟨rfl, rfl, rfl⟩ | ⟨rfl, rfl, rfl⟩ | ⟨rfl, rfl, rfl⟩ | ⟨rfl, rfl, rfl⟩ | ⟨rfl, rfl, rfl⟩ | ⟨rfl, rfl, rfl⟩ | ⟨rfl, rfl, rfl⟩ | ⟨rfl, rfl, rfl⟩ | ⟨rfl, rfl, rfl⟩ | ⟨rfl, rfl, rfl⟩ | ⟨rfl, rfl, rfl⟩ | ⟨rfl, rfl, rfl⟩ | ⟨rfl, rfl, rfl⟩ | ⟨rfl, rfl, rfl⟩ | ⟨rfl, rfl⟩ | ⟨rfl, rfl⟩
  · exact ⟨fun q => absurd q.1 (by decide), fun q => absurd q (nI_nc (by omega) (by decide))⟩
  · exact ⟨fun q => absurd q.2 (nI_n10 (c := 15) hv (by omega) (by omega)), fun q => absurd q (nI_nc (by omega) (by decide))⟩
  · decide
  · decide
  · decide
  · decide
  · decide
  · decide
  · decide
  · decide
  · decide
  · decide
  · decide
  · decide
  · decide
  · decide
  · exact ⟨fun q => absurd q.1 (by decide), fun q => absurd q (by decide)⟩
  · exact ⟨fun q => absurd q.1 (by decide), fun q => absurd q (by decide)⟩
/-- a number: its step -/
theorem tk_num {so iz t : Int32} (h : tokR so iz t) (hs : so = 2) : ¬ t < 0 ∧ ¬ 10005 < t ∧ cA t = 1 ∧ cW t = iz := by
  rcases h with ⟨v, hv, rfl, rfl, rfl⟩ | ⟨v, hv, rfl, rfl, rfl⟩ | ⟨rfl, rfl, rfl⟩ | ⟨rfl, rfl, rfl⟩ | ⟨rfl, rfl, rfl⟩ | ⟨rfl, rfl, rfl⟩ | ⟨rfl, rfl, rfl⟩ | ⟨rfl, rfl, rfl⟩ | ⟨rfl, rfl, rfl⟩ | ⟨rfl, rfl, rfl⟩ | ⟨rfl, rfl, rfl⟩ | ⟨rfl, rfl, rfl⟩ | ⟨rfl, rfl, rfl⟩ | ⟨rfl, rfl, rfl⟩ | ⟨rfl, rfl, rfl⟩ | ⟨rfl, rfl, rfl⟩ | ⟨rfl, rfl⟩ | ⟨rfl, rfl⟩
  · have h1 : ¬ nI v < 0 := nI_nneg (by omega)
    have h2 : nI v < 10000 := (nI_ltI (a := v) (b := 10000) (by omega) (by omega)).mpr (by omega)
    have h0 : 0 ≤ nI v := Int32.not_lt.mp h1
    exact ⟨h1, fun q => absurd ((nI_ltI (a := 10005) (b := v) (by omega) (by omega)).mp q) (by omega), by rw [cA, if_pos h0, if_pos h2], by rw [cW, if_pos h0, if_pos h2]⟩
  · exact absurd hs (by decide)
  · exact absurd hs (by decide)
  · exact absurd hs (by decide)
  · exact absurd hs (by decide)
  · exact absurd hs (by decide)
  · exact absurd hs (by decide)
  · exact absurd hs (by decide)
  · exact absurd hs (by decide)
  · exact absurd hs (by decide)
  · exact absurd hs (by decide)
  · exact absurd hs (by decide)
  · exact absurd hs (by decide)
  · exact absurd hs (by decide)
  · exact absurd hs (by decide)
  · exact absurd hs (by decide)
  · exact absurd hs (by decide)
  · exact absurd hs (by decide)
/-- a word for a fact: its step -/
theorem tk_fact {so iz t : Int32} (h : tokR so iz t) (hs : so = 1) (hi : iz < 6) : ¬ t < 0 ∧ ¬ 10005 < t ∧ cA t = 2 ∧ cW t = iz := by
  rcases h with ⟨v, hv, rfl, rfl, rfl⟩ | ⟨v, hv, rfl, rfl, rfl⟩ | ⟨rfl, rfl, rfl⟩ | ⟨rfl, rfl, rfl⟩ | ⟨rfl, rfl, rfl⟩ | ⟨rfl, rfl, rfl⟩ | ⟨rfl, rfl, rfl⟩ | ⟨rfl, rfl, rfl⟩ | ⟨rfl, rfl, rfl⟩ | ⟨rfl, rfl, rfl⟩ | ⟨rfl, rfl, rfl⟩ | ⟨rfl, rfl, rfl⟩ | ⟨rfl, rfl, rfl⟩ | ⟨rfl, rfl, rfl⟩ | ⟨rfl, rfl, rfl⟩ | ⟨rfl, rfl, rfl⟩ | ⟨rfl, rfl⟩ | ⟨rfl, rfl⟩
  · exact absurd hs (by decide)
  · have h1 : ¬ nI (10000 + v) < 0 := nI_nneg (by omega)
    have h2 : ¬ nI (10000 + v) < 10000 := fun q => absurd ((nI_ltI (a := 10000 + v) (b := 10000) (by omega) (by omega)).mp q) (by omega)
    have h0 : 0 ≤ nI (10000 + v) := Int32.not_lt.mp h1
    exact ⟨h1, fun q => absurd ((nI_ltI (a := 10005) (b := 10000 + v) (by omega) (by omega)).mp q) (by omega), by rw [cA, if_pos h0, if_neg h2], by rw [cW, if_pos h0, if_neg h2]; exact nI_off⟩
  · exact absurd hi (by decide)
  · exact absurd hi (by decide)
  · exact absurd hi (by decide)
  · exact absurd hi (by decide)
  · exact absurd hi (by decide)
  · exact absurd hi (by decide)
  · exact absurd hs (by decide)
  · exact absurd hs (by decide)
  · exact absurd hs (by decide)
  · exact absurd hs (by decide)
  · exact absurd hs (by decide)
  · exact absurd hs (by decide)
  · exact absurd hs (by decide)
  · exact absurd hs (by decide)
  · exact absurd hs (by decide)
  · exact absurd hs (by decide)
/-- neither a number nor a fact's word -/
theorem tk_none {so iz t : Int32} (h : tokR so iz t) (hs : ¬ so = 2) (hi : ¬ (so = 1 ∧ iz < 6)) : t < 0 := by
  rcases h with ⟨v, hv, rfl, rfl, rfl⟩ | ⟨v, hv, rfl, rfl, rfl⟩ | ⟨rfl, rfl, rfl⟩ | ⟨rfl, rfl, rfl⟩ | ⟨rfl, rfl, rfl⟩ | ⟨rfl, rfl, rfl⟩ | ⟨rfl, rfl, rfl⟩ | ⟨rfl, rfl, rfl⟩ | ⟨rfl, rfl, rfl⟩ | ⟨rfl, rfl, rfl⟩ | ⟨rfl, rfl, rfl⟩ | ⟨rfl, rfl, rfl⟩ | ⟨rfl, rfl, rfl⟩ | ⟨rfl, rfl, rfl⟩ | ⟨rfl, rfl, rfl⟩ | ⟨rfl, rfl, rfl⟩ | ⟨rfl, rfl⟩ | ⟨rfl, rfl⟩
  · exact absurd rfl hs
  · exact absurd ⟨rfl, (nI_ltI (b := 6) (by omega) (by omega)).mpr hv⟩ hi
  · decide
  · decide
  · decide
  · decide
  · decide
  · decide
  · decide
  · decide
  · decide
  · decide
  · decide
  · decide
  · decide
  · decide
  · decide
  · decide
theorem tk_not17 {so iz t : Int32} (h : tokR so iz t) (hs : ¬ so = 4) : ¬ t = -17 := by
  rcases h with ⟨v, hv, rfl, rfl, rfl⟩ | ⟨v, hv, rfl, rfl, rfl⟩ | ⟨rfl, rfl, rfl⟩ | ⟨rfl, rfl, rfl⟩ | ⟨rfl, rfl, rfl⟩ | ⟨rfl, rfl, rfl⟩ | ⟨rfl, rfl, rfl⟩ | ⟨rfl, rfl, rfl⟩ | ⟨rfl, rfl, rfl⟩ | ⟨rfl, rfl, rfl⟩ | ⟨rfl, rfl, rfl⟩ | ⟨rfl, rfl, rfl⟩ | ⟨rfl, rfl, rfl⟩ | ⟨rfl, rfl, rfl⟩ | ⟨rfl, rfl, rfl⟩ | ⟨rfl, rfl, rfl⟩ | ⟨rfl, rfl⟩ | ⟨rfl, rfl⟩
  · exact nI_nc (by omega) (by decide)
  · exact nI_nc (by omega) (by decide)
  · decide
  · decide
  · decide
  · decide
  · decide
  · decide
  · decide
  · decide
  · decide
  · decide
  · decide
  · decide
  · decide
  · decide
  · decide
  · exact absurd rfl hs
