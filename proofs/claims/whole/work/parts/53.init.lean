/-! the start: both are new -/
theorem init_tok : f_X8_token 0 0 (fun _ => 0) = some (0, 0, 0, -1) := by decide +kernel
theorem init_reads : ∃ o1, f_X8_reads 0 (fun _ => 0) (fun _ => 0) = some o1 ∧ o1.2.2.2.2.2 0 = nI 0 ∧ o1.2.2.2.2.2 1 = nI 5 ∧ o1.2.2.2.2.2 2 = nI 60 := by
  obtain ⟨Z, z1, z2⟩ := reads0 (len := 0) (fun _ => 0) (fun _ => 0)
  have t : f_X8_token (nI 0) (nI 0) (fun _ => 0) = some (0, 0, 0, -1) := init_tok
  have z3 : f_X8_reads 0 (fun _ => 0) (fun _ => 0) = bd (f_X8_token (nI 0) (nI 0) (fun _ => 0)) (fun u => f_X8_reads_L45 (nI 0) (fun _ => 0) FU u.1 u.2.1 u.2.2.1 u.2.2.2 (upd (upd Z 1 (nI 5)) 2 (nI 60))) := z2
  rw [t, qbd] at z3
  have e : FU = 999 + 1 := rfl
  have z4 : f_X8_reads_L45 (nI 0) (fun _ => 0) FU 0 0 0 (-1) (upd (upd Z 1 (nI 5)) 2 (nI 60)) = some (1, 0, 0, 0, -1, upd (upd Z 1 (nI 5)) 2 (nI 60)) := by
    rw [e]
    show f_X8_reads_B45 _ _ _ 0 0 0 (-1) _ = _
    unfold f_X8_reads_B45
    rw [if_pos rfl]
  refine ⟨(1, 0, 0, 0, -1, upd (upd Z 1 (nI 5)) 2 (nI 60)), z3.trans z4, ?_, ?_, ?_⟩
  · show upd (upd Z 1 (nI 5)) 2 (nI 60) 0 = nI 0
    rw [qu_n (by omega), qu_n (by omega)]
    exact z1 0 (by omega)
  · show upd (upd Z 1 (nI 5)) 2 (nI 60) 1 = nI 5
    rw [qu_n (by omega), qu_s]
  · show upd (upd Z 1 (nI 5)) 2 (nI 60) 2 = nI 60
    exact qu_s
theorem init_rel : ∃ o1 o2, f_X8_reads 0 (fun _ => 0) (fun _ => 0) = some o1 ∧ f_X8_tells o1.2.2.2.2.2 (fun _ => 0) (fun _ => 0) (fun _ => 0) = some o2 ∧
    RT 0 (fun _ => 0) 0 (fun _ => 0) ∧ ∃ (n : Nat) (Y K T : Nat → Nat) (le sh : Nat) (g : Nat → Nat) (a b : Nat),
      RH n Y K T le sh 0 5 60 (fun _ => 0) (fun _ => 0) (fun _ => 0) (fun _ => 0) o2.2.2.1 ∧ RS n g a b (fun _ => 0) 0 0 o2.2.2.2.1 0 ∧ RHi n 0 0 (fun _ => 0) (fun _ => 0) (fun _ _ => 0) o2.1 (fun _ => 0) ∧ RI n (fun _ => 0) (fun _ => 0) (fun _ => 0) (fun _ _ => 0) o2.2.2.2.2 (fun _ => 0) ∧ RLv n 0 (fun _ => 0) (fun _ => 0) (fun _ => 0) o2.2.1 (fun _ => 0) (fun _ => 0) := by
  obtain ⟨o1, h1, h2, h3, h4⟩ := init_reads
  obtain ⟨td, s, kp, t1, t2, t3, t4, t5, t6, t7⟩ := q_tells (n := 0) (S := fun _ => 0) (m := o1.2.2.2.2.2) (td0 := fun _ => 0) (s0 := fun _ => 0) (kp0 := fun _ => 0) (by omega) h2 (fun j hj => absurd hj (by omega))
  refine ⟨o1, (nI 0, nI 0, td, s, kp), h1, t1, ⟨0, by omega, rfl, rfl, fun _ => 0, fun j hj => absurd hj (by omega)⟩, 0, fun _ => 0, fun _ => 0, fun _ => 0, 5, 60, dia (fun _ => 0) 0, 0, 0, ?_, ?_, ?_, ?_, ?_⟩
  · exact ⟨by omega, by omega, by omega, rfl, (t2 0 (by omega)).trans h2, rfl, (t2 1 (by omega)).trans h3, rfl, (t2 2 (by omega)).trans h4, fun j hj => absurd hj (by omega), fun _ => 0, fun i hi => absurd hi (by omega), fun i j h1 h2 => absurd h2 (by omega)⟩
  · refine ⟨dia_vg (by omega) (fun j hj => absurd hj (by omega)), by omega, rfl, t4, rfl, t5, fun i hi => ⟨?_, ?_⟩⟩
    · unfold dia
      rw [if_neg (by omega)]
      rfl
    · rw [Nat.zero_add]; exact t3 i hi
  · exact ⟨0, 0, by omega, by omega, rfl, rfl, rfl, fun k hk => absurd hk (by omega)⟩
  · intro i hi
    left
    rcases (by omega : i = 0 ∨ i = 1) with rfl | rfl
    · exact ⟨rfl, t6⟩
    · exact ⟨rfl, t7⟩
  · exact ⟨0, by omega, rfl, rfl, fun _ => 0, fun _ => 0, fun _ => 0, fun k hk => absurd hk (by omega)⟩
