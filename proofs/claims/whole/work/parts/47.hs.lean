theorem q_kp (v1 : Int32) (tl : Int32) (lt : Int32) (st : Int32) (pl : Int32) (tk : Int32) (s0 : Int32) (nu : Int32) (dp : Int32) (dl : Int32) (ds : Int32) (dy : Nat → Int32) (dq : Nat → Int32) (dk : Nat → Int32) (dt : Nat → Int32) (db : Nat → Int32) (hp : Int32) (hl : Int32) (hs : Int32) (hy : Nat → Int32) (hq : Nat → Int32) (hk : Nat → Int32) (ht : Nat → Int32) (hb : Nat → Int32) (rs : Int32) (rl : Int32) (rp : Nat → Int32) (kn : Int32) (ts : Int32) (kp : Nat → Int32) : f_X7_house_L61 v1 tl lt st pl tk s0 nu dp dl ds dy dq dk dt db hp hl hs hy hq hk ht hb rs rl rp kn ts FU 0 kp = some (v1, tl, lt, st, pl, tk, s0, nu, dp, dl, ds, dy, dq, dk, dt, db, hp, hl, hs, hy, hq, hk, ht, hb, rs, rl, rp, kn, ts, upd (upd kp 0 (nI 0)) 1 (nI 0)) := by
  have s2 : ∀ f (k : Nat → Int32), f_X7_house_L61 v1 tl lt st pl tk s0 nu dp dl ds dy dq dk dt db hp hl hs hy hq hk ht hb rs rl rp kn ts (f + 1) (nI 2) k = some (v1, tl, lt, st, pl, tk, s0, nu, dp, dl, ds, dy, dq, dk, dt, db, hp, hl, hs, hy, hq, hk, ht, hb, rs, rl, rp, kn, ts, k) := by
    intro f k
    show f_X7_house_B61 _ _ _ _ _ _ _ _ _ _ _ _ _ _ _ _ _ _ _ _ _ _ _ _ _ _ _ _ _ _ _ _ = _
    unfold f_X7_house_B61
    rw [L2, if_pos (nI_le (Nat.le_refl _) (by omega))]
  have s1 : ∀ f (k : Nat → Int32) p, p < 2 → f_X7_house_L61 v1 tl lt st pl tk s0 nu dp dl ds dy dq dk dt db hp hl hs hy hq hk ht hb rs rl rp kn ts (f + 1) (nI p) k = f_X7_house_L61 v1 tl lt st pl tk s0 nu dp dl ds dy dq dk dt db hp hl hs hy hq hk ht hb rs rl rp kn ts f (nI (p + 1)) (upd k p (nI 0)) := by
    intro f k p hp
    show f_X7_house_B61 _ _ _ _ _ _ _ _ _ _ _ _ _ _ _ _ _ _ _ _ _ _ _ _ _ _ _ _ _ _ _ _ = _
    unfold f_X7_house_B61
    rw [L2, if_neg (nI_ge hp (by omega)), qck hp (by omega), qcl (by omega), L1, nI_add, L0]
  have e : FU = 997 + 1 + 1 + 1 := rfl
  rw [L0, e, s1 _ _ 0 (by omega), s1 _ _ 1 (by omega), s2]
theorem reads0 {len : Nat} (md mx : Nat → Int32) : ∃ Z : Nat → Int32, (∀ j, j < 33 → Z j = nI 0) ∧ f_X8_reads (nI len) md mx = bd (f_X8_token (nI len) (nI 0) mx) (fun u => f_X8_reads_L45 (nI len) mx FU u.1 u.2.1 u.2.2.1 u.2.2.2 (upd (upd Z 1 (nI 5)) 2 (nI 60))) := by
  have key : ∀ d p f (a : Nat → Int32), p + d = 33 → d < f → (∀ x, x < p → a x = nI 0) → ∃ Z : Nat → Int32, (∀ j, j < 33 → Z j = nI 0) ∧ f_X8_reads_L2 (nI len) mx f (nI p) a = bd (f_X8_token (nI len) (nI 0) mx) (fun u => f_X8_reads_L45 (nI len) mx FU u.1 u.2.1 u.2.2.1 u.2.2.2 (upd (upd Z 1 (nI 5)) 2 (nI 60))) := by
    intro d
    induction d with
    | zero =>
      intro p f a hp hf ha
      obtain ⟨f, rfl⟩ : ∃ k, f = k + 1 := ⟨f - 1, by omega⟩
      refine ⟨a, fun j hj => ha j (by omega), ?_⟩
      show f_X8_reads_B2 _ _ _ _ _ = _
      unfold f_X8_reads_B2 f_X8_reads_J21
      rw [L33, if_pos (nI_le (by omega) (by omega)), L1, L2, L5, L60, L0, qck (show 1 < 33 by omega) (by omega), qck (show 2 < 33 by omega) (by omega), qcl (show 1 < 2147483648 by omega), qcl (show 2 < 2147483648 by omega)]
    | succ d ih =>
      intro p f a hp hf ha
      obtain ⟨f, rfl⟩ : ∃ k, f = k + 1 := ⟨f - 1, by omega⟩
      obtain ⟨Z, e1, e2⟩ := ih (p + 1) f (upd a p (nI 0)) (by omega) (by omega) (fun x hx => by
        by_cases c : x = p
        · subst c; rw [qu_s]
        · rw [qu_n c]; exact ha x (by omega))
      refine ⟨Z, e1, ?_⟩
      show f_X8_reads_B2 _ _ _ _ _ = _
      unfold f_X8_reads_B2
      rw [L33, if_neg (nI_ge (show p < 33 by omega) (by omega)), qck (show p < 33 by omega) (by omega), qcl (by omega), L1, nI_add, L0]
      exact e2
  exact key 33 0 FU md (by omega) (fu (by omega)) (fun x hx => absurd hx (by omega))
