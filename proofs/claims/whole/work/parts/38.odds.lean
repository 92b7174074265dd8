/-! chances: every case there is -/
def oddC (x k c v : Nat) : Option Int32 := bd (f_X0_reckon (fun _ => nI 0) (nI x) (nI k) (nI c)) (fun u => if v = 0 then some u.1 else some u.2.1)
theorem odds_5 : ∀ c, c < 6 → ∀ x, x < 11 → ∀ k, k < 8 → ∀ v, v < 2 → f_X8_odds_L49 (nI x) (nI k) (nI v) (nI c) (nI 0) FU (nI 1) (nI 0) = oddC x k c v := by decide +kernel
theorem odds_6 : ∀ x, x < 11 → ∀ k, k < 8 → ∀ v, v < 2 → f_X8_odds_L49 (nI x) (nI k) (nI v) (nI 6) (nI 0) FU (nI 1) (nI 0) = oddC x k 6 v := by decide +kernel
theorem odds_7 : ∀ x, x < 11 → ∀ k, k < 8 → ∀ v, v < 2 → f_X8_odds_L49 (nI x) (nI k) (nI v) (nI 7) (nI 0) FU (nI 1) (nI 0) = oddC x k 7 v := by decide +kernel
theorem odds_all {c x k v : Nat} (hc : c ≤ 7) (hx : x ≤ 10) (hk : k ≤ 7) (hv : v ≤ 1) : f_X8_odds_L49 (nI x) (nI k) (nI v) (nI c) (nI 0) FU (nI 1) (nI 0) = oddC x k c v := by
  rcases (by omega : c < 6 ∨ c = 6 ∨ c = 7) with h | rfl | rfl
  · exact odds_5 c h x (by omega) k (by omega) v (by omega)
  · exact odds_6 x (by omega) k (by omega) v (by omega)
  · exact odds_7 x (by omega) k (by omega) v (by omega)
theorem odd_some : ∀ c, c < 8 → ∀ x, x < 11 → ∀ k, k < 8 → (f_X0_reckon (fun _ => nI 0) (nI x) (nI k) (nI c)).isSome = true := by decide +kernel
