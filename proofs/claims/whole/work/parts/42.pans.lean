/-! one item -/
abbrev CT := Int32 × Int32 × Int32 × Int32 × Int32 × Int32 × Int32 × Int32 × Int32 × Int32 × (Nat → Int32) × (Nat → Int32) × (Nat → Int32) × (Nat → Int32) × (Nat → Int32)
abbrev MT := Int32 × Int32 × Int32 × Int32 × Int32 × (Nat → Int32)
def RD (n : Nat) (Y S K T : Nat → Nat) (le sh lt st it : Nat) (ys ss ks ts ba m : Nat → Int32) : Prop :=
  n ≤ 7 ∧ (1 ≤ le ∧ le ≤ 60) ∧ (10 ≤ sh ∧ sh ≤ 99) ∧ lt ≤ 1 ∧ st ≤ 1 ∧ m 0 = nI n ∧ m 1 = nI le ∧ m 2 = nI sh ∧ m 3 = nI it ∧ m 4 = nI (lt + 2 * st) ∧ (∀ j, j < n → Y j ≤ 99 ∧ S j ≤ 60 ∧ K j ≤ 9 ∧ T j ≤ 2 ∧ ys j = nI (Y j) ∧ m (5 + j) = nI (Y j) ∧ ss j = nI (S j) ∧ m (12 + j) = nI (S j) ∧ ks j = nI (K j) ∧ m (19 + j) = nI (K j) ∧ ts j = nI (T j) ∧ m (26 + j) = nI (T j)) ∧ RB n Y ba
def itF (len : Nat) (x : Option CT) (y : Option MT) : Prop := ∃ s, s ≤ len ∧ (∃ o, x = some o ∧ o.1 = nI 0 ∧ o.2.2.2.2.2.1 = nI s) ∧ ∃ q, y = some q ∧ q.1 = nI 0 ∧ q.2.2.2.1 = nI s
def itO (len it : Nat) (tx : Nat → Int32) (x : Option CT) (y : Option MT) : Prop := ∃ (p' n' : Nat) (Y' S' K' T' : Nat → Nat) (le' sh' lt' st' : Nat) (ys' ss' ks' ts' ba' m' : Nat → Int32) (tk' s' num' a b d : Int32), p' ≤ len ∧ RD n' Y' S' K' T' le' sh' lt' st' it ys' ss' ks' ts' ba' m' ∧ it + 1 = n' + lt' + st' ∧ x = f_X6_readItem_J50 (nI len) tx (nI 1) (nI lt') (nI st') (nI p') tk' s' num' (nI n') (nI le') (nI sh') ys' ss' ks' ts' ba' ∧ y = some (nI 1, nI p', a, b, d, m')
theorem pan_sim {c : Nat → Nat} {len p n le sh lt st it : Nat} {Y S K T : Nat → Nat} {ys ss ks ts ba m tx mx : Nat → Int32} (h : ltr c len tx mx) (hl : len ≤ 200) (hp : p ≤ len) (hD : RD n Y S K T le sh lt st it ys ss ks ts ba m) (hit : it = n + lt + st) {s0 : Nat} (hs0 : s0 ≤ len) (tk num so va : Int32) :
    itF len (bd (f_X6_readPan (nI len) (nI p) tk (nI s0) num (nI n) tx ys ss ks ts ba) (fun u4 => f_X6_readItem_J50 (nI len) tx u4.1 (nI lt) (nI st) u4.2.1 u4.2.2.1 u4.2.2.2.1 u4.2.2.2.2.1 u4.2.2.2.2.2.1 (nI le) (nI sh) u4.2.2.2.2.2.2.1 u4.2.2.2.2.2.2.2.1 u4.2.2.2.2.2.2.2.2.1 u4.2.2.2.2.2.2.2.2.2.1 u4.2.2.2.2.2.2.2.2.2.2)) (f_X8_readsItem_J16 (nI len) (nI p) so (nI s0) va m mx (nI 112)) ∨
    itO len it tx (bd (f_X6_readPan (nI len) (nI p) tk (nI s0) num (nI n) tx ys ss ks ts ba) (fun u4 => f_X6_readItem_J50 (nI len) tx u4.1 (nI lt) (nI st) u4.2.1 u4.2.2.1 u4.2.2.2.1 u4.2.2.2.2.1 u4.2.2.2.2.2.1 (nI le) (nI sh) u4.2.2.2.2.2.2.1 u4.2.2.2.2.2.2.2.1 u4.2.2.2.2.2.2.2.2.1 u4.2.2.2.2.2.2.2.2.2.1 u4.2.2.2.2.2.2.2.2.2.2)) (f_X8_readsItem_J16 (nI len) (nI p) so (nI s0) va m mx (nI 112)) := by
  obtain ⟨hn, hle, hsh, hlt, hst, m0, m1, m2, m3, m4, hj, hB⟩ := hD
  unfold f_X6_readPan f_X8_readsItem_J16
  rw [L7, L0, L99, L60, L9, L2, L112, L5, L12, L19, L26, L1, if_pos (show nI 112 = nI 112 from rfl), qck (show 0 < 33 by omega) (by omega), qcl (show 0 < 2147483648 by omega), m0]
  by_cases c7 : n = 7
  · left
    rw [if_pos (show nI 7 ≤ nI n from nI_le (by omega) (by omega)), if_pos (show nI n = nI 7 by rw [c7]), qbd]
    unfold f_X6_readItem_J50
    exact ⟨s0, hs0, ⟨_, if_pos rfl, rfl, rfl⟩, _, rfl, rfl, rfl⟩
  have hn7 : n < 7 := by omega
  rw [if_neg (show ¬ nI 7 ≤ nI n by rw [nI_leI (by omega) (by omega)]; omega), if_neg (show ¬ nI n = nI 7 by rw [nI_eq (by omega) (by omega)]; exact c7), nI_add, nI_add, nI_add, nI_add]
  rcases num_sim (m := m) (slot := 5 + n) (lo := 0) (hi := 99) h hl hp (by omega) (by omega) (by omega) num with ⟨p1, s1, w1, a1, b1, d1, x1, y1⟩ | ⟨s, u1, u2, u3, u4, u5, u6, u7, hs, x1, y1⟩
  rotate_left
  · left
    rw [x1, y1, qbd, qbd]
    dsimp only
    rw [if_pos (show nI 0 = nI 0 from rfl), if_pos (show nI 0 = nI 0 from rfl), qbd]
    unfold f_X6_readItem_J50
    exact ⟨s, hs, ⟨_, if_pos rfl, rfl, rfl⟩, _, rfl, rfl, rfl⟩
  rw [x1, y1, qbd, qbd]
  dsimp only
  rw [if_neg (show ¬ nI 1 = nI 0 by decide), if_neg (show ¬ nI 1 = nI 0 by decide)]
  rcases num_sim (m := upd m (5 + n) (nI w1)) (slot := 12 + n) (lo := 0) (hi := 60) h hl a1 (by omega) (by omega) (by omega) (nI w1) with ⟨p2, s2, w2, a2, b2, d2, x2, y2⟩ | ⟨s, u1, u2, u3, u4, u5, u6, u7, hs, x2, y2⟩
  rotate_left
  · left
    rw [x2, y2, qbd, qbd]
    dsimp only
    rw [if_pos (show nI 0 = nI 0 from rfl), if_pos (show nI 0 = nI 0 from rfl), qbd]
    unfold f_X6_readItem_J50
    exact ⟨s, hs, ⟨_, if_pos rfl, rfl, rfl⟩, _, rfl, rfl, rfl⟩
  rw [x2, y2, qbd, qbd]
  dsimp only
  rw [if_neg (show ¬ nI 1 = nI 0 by decide), if_neg (show ¬ nI 1 = nI 0 by decide)]
  rcases num_sim (m := upd (upd m (5 + n) (nI w1)) (12 + n) (nI w2)) (slot := 19 + n) (lo := 0) (hi := 9) h hl a2 (by omega) (by omega) (by omega) (nI w2) with ⟨p3, s3, w3, a3, b3, d3, x3, y3⟩ | ⟨s, u1, u2, u3, u4, u5, u6, u7, hs, x3, y3⟩
  rotate_left
  · left
    rw [x3, y3, qbd, qbd]
    dsimp only
    rw [if_pos (show nI 0 = nI 0 from rfl), if_pos (show nI 0 = nI 0 from rfl), qbd]
    unfold f_X6_readItem_J50
    exact ⟨s, hs, ⟨_, if_pos rfl, rfl, rfl⟩, _, rfl, rfl, rfl⟩
  rw [x3, y3, qbd, qbd]
  dsimp only
  rw [if_neg (show ¬ nI 1 = nI 0 by decide), if_neg (show ¬ nI 1 = nI 0 by decide)]
  rcases num_sim (m := upd (upd (upd m (5 + n) (nI w1)) (12 + n) (nI w2)) (19 + n) (nI w3)) (slot := 26 + n) (lo := 0) (hi := 2) h hl a3 (by omega) (by omega) (by omega) (nI w3) with ⟨p4, s4, w4, a4, b4, d4, x4, y4⟩ | ⟨s, u1, u2, u3, u4, u5, u6, u7, hs, x4, y4⟩
  rotate_left
  · left
    rw [x4, y4, qbd, qbd]
    dsimp only
    rw [if_pos (show nI 0 = nI 0 from rfl), if_pos (show nI 0 = nI 0 from rfl), qbd]
    unfold f_X6_readItem_J50
    exact ⟨s, hs, ⟨_, if_pos rfl, rfl, rfl⟩, _, rfl, rfl, rfl⟩
  obtain ⟨ba', k1, k2⟩ := q_app ss ks ts hn7 (fun j hj2 => ⟨(hj j hj2).1, (hj j hj2).2.2.2.2.1⟩) hB d1 (nI w2) (nI w3) (nI w4)
  right
  rw [x4, y4, qbd, qbd]
  dsimp only
  rw [if_neg (show ¬ nI 1 = nI 0 by decide), if_neg (show ¬ nI 1 = nI 0 by decide), k1, qbd]
  dsimp only
  rw [if_neg (show ¬ nI 1 = nI 0 by decide), qbd, qck (show 0 < 33 by omega) (by omega), qck (show 0 < 33 by omega) (by omega)]
  refine ⟨p4, n + 1, fun j => if j = n then w1 else Y j, fun j => if j = n then w2 else S j, fun j => if j = n then w3 else K j, fun j => if j = n then w4 else T j, le, sh, lt, st, _, _, _, _, ba', _, _, _, _, _, _, _, a4, ?_, by omega, rfl, rfl⟩
  refine ⟨by omega, hle, hsh, hlt, hst, ?_, ?_, ?_, ?_, ?_, fun j hj2 => ?_, k2⟩
  · rw [qu_s, qu_n (by omega), qu_n (by omega), qu_n (by omega), qu_n (by omega), m0, nI_add]
  · rw [qu_n (by omega), qu_n (by omega), qu_n (by omega), qu_n (by omega), qu_n (by omega)]; exact m1
  · rw [qu_n (by omega), qu_n (by omega), qu_n (by omega), qu_n (by omega), qu_n (by omega)]; exact m2
  · rw [qu_n (by omega), qu_n (by omega), qu_n (by omega), qu_n (by omega), qu_n (by omega)]; exact m3
  · rw [qu_n (by omega), qu_n (by omega), qu_n (by omega), qu_n (by omega), qu_n (by omega)]; exact m4
  · dsimp only
    by_cases e : j = n
    · subst e
      rw [if_pos rfl, if_pos rfl, if_pos rfl, if_pos rfl]
      refine ⟨d1, d2, d3, d4, qu_s, ?_, qu_s, ?_, qu_s, ?_, qu_s, ?_⟩
      · rw [qu_n (by omega), qu_n (by omega), qu_n (by omega), qu_n (by omega), qu_s]
      · rw [qu_n (by omega), qu_n (by omega), qu_n (by omega), qu_s]
      · rw [qu_n (by omega), qu_n (by omega), qu_s]
      · rw [qu_n (by omega), qu_s]
    · obtain ⟨z1, z2, z3, z4, z5, z6, z7, z8, z9, z10, z11, z12⟩ := hj j (by omega)
      rw [if_neg e, if_neg e, if_neg e, if_neg e]
      refine ⟨z1, z2, z3, z4, ?_, ?_, ?_, ?_, ?_, ?_, ?_, ?_⟩
      · rw [qu_n e]; exact z5
      · rw [qu_n (by omega), qu_n (by omega), qu_n (by omega), qu_n (by omega), qu_n (by omega)]; exact z6
      · rw [qu_n e]; exact z7
      · rw [qu_n (by omega), qu_n (by omega), qu_n (by omega), qu_n (by omega), qu_n (by omega)]; exact z8
      · rw [qu_n e]; exact z9
      · rw [qu_n (by omega), qu_n (by omega), qu_n (by omega), qu_n (by omega), qu_n (by omega)]; exact z10
      · rw [qu_n e]; exact z11
      · rw [qu_n (by omega), qu_n (by omega), qu_n (by omega), qu_n (by omega), qu_n (by omega)]; exact z12
