theorem le_z {lt st : Nat} (h1 : lt ≤ 1) (h2 : st ≤ 1) : nI (lt + 2 * st) &&& nI 1 = nI lt := by
  rcases (by omega : lt = 0 ∨ lt = 1) with rfl | rfl <;> rcases (by omega : st = 0 ∨ st = 1) with rfl | rfl <;> decide
theorem sh_q {lt st : Nat} (h1 : lt ≤ 1) (h2 : st ≤ 1) : (nI (lt + 2 * st) &&& nI 2 = nI 0) = (nI st = nI 0) := by
  apply propext
  rcases (by omega : lt = 0 ∨ lt = 1) with rfl | rfl <;> rcases (by omega : st = 0 ∨ st = 1) with rfl | rfl <;> decide
theorem le_o {st : Nat} (h2 : st ≤ 1) : nI (0 + 2 * st) ||| nI 1 = nI (1 + 2 * st) := by
  rcases (by omega : st = 0 ∨ st = 1) with rfl | rfl <;> decide
theorem sh_o {lt : Nat} (h1 : lt ≤ 1) : nI (lt + 2 * 0) ||| nI 2 = nI (lt + 2 * 1) := by
  rcases (by omega : lt = 0 ∨ lt = 1) with rfl | rfl <;> decide
theorem least_sim {c : Nat → Nat} {len p n le sh lt st it : Nat} {Y S K T : Nat → Nat} {ys ss ks ts ba m tx mx : Nat → Int32} (h : ltr c len tx mx) (hl : len ≤ 200) (hp : p ≤ len) (hD : RD n Y S K T le sh lt st it ys ss ks ts ba m) (hit : it = n + lt + st) {s0 : Nat} (hs0 : s0 ≤ len) (tk num so va : Int32) :
    itF len (bd (f_X6_readLeast (nI len) (nI lt) (nI p) tk (nI s0) num tx (nI le)) (fun u3 => f_X6_readItem_J50 (nI len) tx u3.1 u3.2.1 (nI st) u3.2.2.1 u3.2.2.2.1 u3.2.2.2.2.1 u3.2.2.2.2.2.1 (nI n) u3.2.2.2.2.2.2 (nI sh) ys ss ks ts ba)) (f_X8_readsItem_J16 (nI len) (nI p) so (nI s0) va m mx (nI 108)) ∨
    itO len it tx (bd (f_X6_readLeast (nI len) (nI lt) (nI p) tk (nI s0) num tx (nI le)) (fun u3 => f_X6_readItem_J50 (nI len) tx u3.1 u3.2.1 (nI st) u3.2.2.1 u3.2.2.2.1 u3.2.2.2.2.1 u3.2.2.2.2.2.1 (nI n) u3.2.2.2.2.2.2 (nI sh) ys ss ks ts ba)) (f_X8_readsItem_J16 (nI len) (nI p) so (nI s0) va m mx (nI 108)) := by
  obtain ⟨hn, hle, hsh, hlt, hst, m0, m1, m2, m3, m4, hj, hB⟩ := hD
  unfold f_X6_readLeast f_X8_readsItem_J16 f_X8_once
  rw [L0, L112, L108, L115, L4, L1, L60, if_neg (show ¬ nI 108 = nI 112 by decide), if_pos (show nI 108 = nI 108 from rfl), qck (show 4 < 33 by omega) (by omega), qcl (show 4 < 2147483648 by omega), m4, le_z hlt hst]
  by_cases c0 : lt = 0
  rotate_left
  · left
    rw [if_neg (show ¬ nI lt = nI 0 by rw [nI_eq (by omega) (by omega)]; exact c0), if_neg (show ¬ nI lt = nI 0 by rw [nI_eq (by omega) (by omega)]; exact c0), qbd, qbd]
    dsimp only
    rw [ck_t (show bo (nI 0) = true by decide)]
    unfold f_X6_readItem_J50
    exact ⟨s0, hs0, ⟨_, if_pos rfl, rfl, rfl⟩, _, rfl, rfl, rfl⟩
  subst c0
  rw [if_pos (show nI 0 = nI 0 from rfl), if_pos (show nI 0 = nI 0 from rfl), qck (show 4 < 33 by omega) (by omega), qck (show 4 < 33 by omega) (by omega), le_o hst]
  rcases num_sim (m := upd m 4 (nI (1 + 2 * st))) (slot := 1) (lo := 1) (hi := 60) h hl hp (by omega) (by omega) (by omega) num with ⟨p1, s1, w1, a1, b1, d1, x1, y1⟩ | ⟨s, u1, u2, u3, u4, u5, u6, u7, hs, x1, y1⟩
  rotate_left
  · left
    rw [x1, y1, qbd, qbd]
    dsimp only
    rw [if_pos (show nI 0 = nI 0 from rfl), ck_t (show bo (nI 0) = true by decide), qbd, qbd]
    dsimp only
    rw [ck_t (show bo (nI 0) = true by decide)]
    unfold f_X6_readItem_J50
    exact ⟨s, hs, ⟨_, if_pos rfl, rfl, rfl⟩, _, rfl, rfl, rfl⟩
  right
  rw [x1, y1, qbd, qbd]
  dsimp only
  rw [if_neg (show ¬ nI 1 = nI 0 by decide), ck_t (show bo (nI 1) = true by decide), qbd, qbd]
  dsimp only
  rw [ck_t (show bo (nI 1) = true by decide)]
  refine ⟨p1, n, Y, S, K, T, w1, sh, 1, st, _, _, _, _, ba, _, _, _, _, _, _, _, a1, ?_, by omega, rfl, rfl⟩
  refine ⟨hn, ⟨b1, d1⟩, hsh, by omega, by omega, ?_, ?_, ?_, ?_, ?_, fun j hj2 => ?_, hB⟩
  · rw [qu_n (by omega), qu_n (by omega)]; exact m0
  · rw [qu_s]
  · rw [qu_n (by omega), qu_n (by omega)]; exact m2
  · rw [qu_n (by omega), qu_n (by omega)]; exact m3
  · rw [qu_n (by omega), qu_s]
  · obtain ⟨z1, z2, z3, z4, z5, z6, z7, z8, z9, z10, z11, z12⟩ := hj j hj2
    refine ⟨z1, z2, z3, z4, z5, ?_, z7, ?_, z9, ?_, z11, ?_⟩
    · rw [qu_n (by omega), qu_n (by omega)]; exact z6
    · rw [qu_n (by omega), qu_n (by omega)]; exact z8
    · rw [qu_n (by omega), qu_n (by omega)]; exact z10
    · rw [qu_n (by omega), qu_n (by omega)]; exact z12
theorem shelf_sim {c : Nat → Nat} {len p n le sh lt st it : Nat} {Y S K T : Nat → Nat} {ys ss ks ts ba m tx mx : Nat → Int32} (h : ltr c len tx mx) (hl : len ≤ 200) (hp : p ≤ len) (hD : RD n Y S K T le sh lt st it ys ss ks ts ba m) (hit : it = n + lt + st) {s0 : Nat} (hs0 : s0 ≤ len) (tk num so va : Int32) :
    itF len (bd (f_X6_readShelf (nI len) (nI st) (nI p) tk (nI s0) num tx (nI sh)) (fun u2 => f_X6_readItem_J50 (nI len) tx u2.1 (nI lt) u2.2.1 u2.2.2.1 u2.2.2.2.1 u2.2.2.2.2.1 u2.2.2.2.2.2.1 (nI n) (nI le) u2.2.2.2.2.2.2 ys ss ks ts ba)) (f_X8_readsItem_J16 (nI len) (nI p) so (nI s0) va m mx (nI 115)) ∨
    itO len it tx (bd (f_X6_readShelf (nI len) (nI st) (nI p) tk (nI s0) num tx (nI sh)) (fun u2 => f_X6_readItem_J50 (nI len) tx u2.1 (nI lt) u2.2.1 u2.2.2.1 u2.2.2.2.1 u2.2.2.2.2.1 u2.2.2.2.2.2.1 (nI n) (nI le) u2.2.2.2.2.2.2 ys ss ks ts ba)) (f_X8_readsItem_J16 (nI len) (nI p) so (nI s0) va m mx (nI 115)) := by
  obtain ⟨hn, hle, hsh, hlt, hst, m0, m1, m2, m3, m4, hj, hB⟩ := hD
  unfold f_X6_readShelf f_X8_readsItem_J16 f_X8_once
  rw [L0, L112, L108, L115, L4, L2, L10, L99, if_neg (show ¬ nI 115 = nI 112 by decide), if_neg (show ¬ nI 115 = nI 108 by decide), if_pos (show nI 115 = nI 115 from rfl), qck (show 4 < 33 by omega) (by omega), qcl (show 4 < 2147483648 by omega), m4]
  by_cases c0 : st = 0
  rotate_left
  · left
    rw [if_neg (show ¬ nI st = nI 0 by rw [nI_eq (by omega) (by omega)]; exact c0), if_neg (show ¬ nI (lt + 2 * st) &&& nI 2 = nI 0 by rw [sh_q hlt hst, nI_eq (by omega) (by omega)]; exact c0), qbd, qbd]
    dsimp only
    rw [if_pos (show nI 0 = nI 0 from rfl)]
    unfold f_X6_readItem_J50
    exact ⟨s0, hs0, ⟨_, if_pos rfl, rfl, rfl⟩, _, rfl, rfl, rfl⟩
  subst c0
  rw [if_pos (show nI 0 = nI 0 from rfl), if_pos (show nI (lt + 2 * 0) &&& nI 2 = nI 0 by rw [sh_q hlt hst]), qck (show 4 < 33 by omega) (by omega), qck (show 4 < 33 by omega) (by omega), sh_o hlt]
  rcases num_sim (m := upd m 4 (nI (lt + 2 * 1))) (slot := 2) (lo := 10) (hi := 99) h hl hp (by omega) (by omega) (by omega) num with ⟨p1, s1, w1, a1, b1, d1, x1, y1⟩ | ⟨s, u1, u2, u3, u4, u5, u6, u7, hs, x1, y1⟩
  rotate_left
  · left
    rw [x1, y1, qbd, qbd]
    dsimp only
    rw [if_pos (show nI 0 = nI 0 from rfl), ck_t (show bo (nI 0) = true by decide), qbd, qbd]
    dsimp only
    rw [if_pos (show nI 0 = nI 0 from rfl)]
    unfold f_X6_readItem_J50
    exact ⟨s, hs, ⟨_, if_pos rfl, rfl, rfl⟩, _, rfl, rfl, rfl⟩
  right
  rw [x1, y1, qbd, qbd]
  dsimp only
  rw [if_neg (show ¬ nI 1 = nI 0 by decide), ck_t (show bo (nI 1) = true by decide), qbd, qbd]
  dsimp only
  rw [if_neg (show ¬ nI 1 = nI 0 by decide)]
  refine ⟨p1, n, Y, S, K, T, le, w1, lt, 1, _, _, _, _, ba, _, _, _, _, _, _, _, a1, ?_, by omega, rfl, rfl⟩
  refine ⟨hn, hle, ⟨b1, d1⟩, by omega, by omega, ?_, ?_, ?_, ?_, ?_, fun j hj2 => ?_, hB⟩
  · rw [qu_n (by omega), qu_n (by omega)]; exact m0
  · rw [qu_n (by omega), qu_n (by omega)]; exact m1
  · rw [qu_s]
  · rw [qu_n (by omega), qu_n (by omega)]; exact m3
  · rw [qu_n (by omega), qu_s]
  · obtain ⟨z1, z2, z3, z4, z5, z6, z7, z8, z9, z10, z11, z12⟩ := hj j hj2
    refine ⟨z1, z2, z3, z4, z5, ?_, z7, ?_, z9, ?_, z11, ?_⟩
    · rw [qu_n (by omega), qu_n (by omega)]; exact z6
    · rw [qu_n (by omega), qu_n (by omega)]; exact z8
    · rw [qu_n (by omega), qu_n (by omega)]; exact z10
    · rw [qu_n (by omega), qu_n (by omega)]; exact z12
