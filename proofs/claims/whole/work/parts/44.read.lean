/-! all items -/
theorem item_sim {c : Nat → Nat} {len p n le sh lt st it : Nat} {Y S K T : Nat → Nat} {ys ss ks ts ba m tx mx : Nat → Int32} (h : ltr c len tx mx) (hl : len ≤ 200) (hp : p ≤ len) (hD : RD n Y S K T le sh lt st it ys ss ks ts ba m) (hit : it = n + lt + st) {s0 : Nat} (hs0 : s0 ≤ len) (tk num so va : Int32) (ht : (∃ l, l < 256 ∧ tk = nI l ∧ so = nI (srtOf l) ∧ va = nI l) ∨ (tk = nI 256 ∧ so = nI 2)) :
    itF len (f_X6_readItem (nI len) (nI lt) (nI st) (nI p) tk (nI s0) num (nI n) (nI le) (nI sh) tx ys ss ks ts ba) (f_X8_readsItem (nI len) (nI p) so (nI s0) va m mx) ∨
    itO len it tx (f_X6_readItem (nI len) (nI lt) (nI st) (nI p) tk (nI s0) num (nI n) (nI le) (nI sh) tx ys ss ks ts ba) (f_X8_readsItem (nI len) (nI p) so (nI s0) va m mx) := by
  unfold f_X6_readItem f_X8_readsItem
  rw [L112, L108, L115, L1, L0]
  have none8 : f_X8_readsItem_J16 (nI len) (nI p) so (nI s0) va m mx (nI 0) = some (nI 0, nI p, so, nI s0, va, m) := by
    unfold f_X8_readsItem_J16
    rw [L112, L108, L115, if_neg (show ¬ nI 0 = nI 112 by decide), if_neg (show ¬ nI 0 = nI 108 by decide), if_neg (show ¬ nI 0 = nI 115 by decide)]
    rfl
  have none6 : ∀ tk, ∃ o : CT, f_X6_readItem_J50 (nI len) tx (nI 0) (nI lt) (nI st) (nI p) tk (nI s0) num (nI n) (nI le) (nI sh) ys ss ks ts ba = some o ∧ o.1 = nI 0 ∧ o.2.2.2.2.2.1 = nI s0 := by
    intro tk
    unfold f_X6_readItem_J50
    exact ⟨_, if_pos rfl, rfl, rfl⟩
  rcases ht with ⟨l, l1, rfl, rfl, rfl⟩ | ⟨rfl, rfl⟩
  · by_cases e1 : l = 112
    · subst e1
      rw [if_pos (show nI 112 = nI 112 from rfl), if_pos (show nI (srtOf 112) = nI 1 from rfl)]
      exact pan_sim h hl hp hD hit hs0 _ _ _ _
    rw [if_neg (show ¬ nI l = nI 112 by rw [nI_eq (by omega) (by omega)]; exact e1)]
    by_cases e2 : l = 108
    · subst e2
      rw [if_pos (show nI 108 = nI 108 from rfl), if_pos (show nI (srtOf 108) = nI 1 from rfl)]
      exact least_sim h hl hp hD hit hs0 _ _ _ _
    rw [if_neg (show ¬ nI l = nI 108 by rw [nI_eq (by omega) (by omega)]; exact e2)]
    by_cases e3 : l = 115
    · subst e3
      rw [if_pos (show nI 115 = nI 115 from rfl), if_pos (show nI (srtOf 115) = nI 1 from rfl)]
      exact shelf_sim h hl hp hD hit hs0 _ _ _ _
    have e4 : ¬ nI (srtOf l) = nI 1 := by
      have := srtOf_2 l
      rw [nI_eq (by omega) (by omega)]
      unfold srtOf
      rw [if_neg e1, if_neg e2, if_neg e3]
      by_cases e5 : l = 59
      · rw [if_pos e5]; omega
      · rw [if_neg e5]; omega
    rw [if_neg (show ¬ nI l = nI 115 by rw [nI_eq (by omega) (by omega)]; exact e3), if_neg e4, none8]
    exact Or.inl ⟨s0, hs0, none6 _, _, rfl, rfl, rfl⟩
  · rw [if_neg (show ¬ nI 256 = nI 112 by decide), if_neg (show ¬ nI 256 = nI 108 by decide), if_neg (show ¬ nI 256 = nI 115 by decide), if_neg (show ¬ nI 2 = nI 1 by decide), none8]
    exact Or.inl ⟨s0, hs0, none6 _, _, rfl, rfl, rfl⟩
def rdF (len : Nat) (x : Option CT) (y : Option MT) : Prop := ∃ s, s ≤ len ∧ (∃ o, x = some o ∧ o.1 = -nI 10 - nI s) ∧ ∃ q, y = some q ∧ q.1 = nI 0 ∧ q.2.2.2.1 = nI s
def rdO (x : Option CT) (y : Option MT) : Prop := ∃ (n : Nat) (Y S K T : Nat → Nat) (le sh lt st it : Nat) (ys ss ks ts ba m : Nat → Int32), RD n Y S K T le sh lt st it ys ss ks ts ba m ∧ it ≤ 9 ∧ (∃ a1 a2 a3 a4 a5 a6, x = some (nI it, a1, a2, a3, a4, a5, a6, nI n, nI le, nI sh, ys, ss, ks, ts, ba)) ∧ ∃ b1 b2 b3 b4, y = some (nI 1, b1, b2, b3, b4, m)
theorem read_loop {c : Nat → Nat} {len : Nat} {tx mx : Nat → Int32} (h : ltr c len tx mx) (hl : len ≤ 200) : ∀ (d : Nat) {it f1 f2 p n le sh lt st : Nat} {Y S K T : Nat → Nat} {ys ss ks ts ba m : Nat → Int32} (tk0 s00 num : Int32), it + d = 9 → d < f1 → d < f2 → p ≤ len → RD n Y S K T le sh lt st it ys ss ks ts ba m → it = n + lt + st →
    rdF len (f_X6_read_L24 (nI len) tx f1 (nI it) (nI lt) (nI st) (nI p) tk0 s00 num (nI n) (nI le) (nI sh) ys ss ks ts ba) (bd (f_X8_token (nI len) (nI p) mx) (fun u => f_X8_reads_L45 (nI len) mx f2 u.1 u.2.1 u.2.2.1 u.2.2.2 m)) ∨
    rdO (f_X6_read_L24 (nI len) tx f1 (nI it) (nI lt) (nI st) (nI p) tk0 s00 num (nI n) (nI le) (nI sh) ys ss ks ts ba) (bd (f_X8_token (nI len) (nI p) mx) (fun u => f_X8_reads_L45 (nI len) mx f2 u.1 u.2.1 u.2.2.1 u.2.2.2 m)) := by
  intro d
  induction d using Nat.strongRecOn with
  | _ d ih =>
    intro it f1 f2 p n le sh lt st Y S K T ys ss ks ts ba m tk0 s00 num hd hf1 hf2 hp hD hit
    obtain ⟨f1, rfl⟩ : ∃ k, f1 = k + 1 := ⟨f1 - 1, by omega⟩
    obtain ⟨f2, rfl⟩ : ∃ k, f2 = k + 1 := ⟨f2 - 1, by omega⟩
    have C : f_X6_read_L24 (nI len) tx (f1 + 1) (nI it) (nI lt) (nI st) (nI p) tk0 s00 num (nI n) (nI le) (nI sh) ys ss ks ts ba = f_X6_read_B24 (nI len) tx (f_X6_read_L24 (nI len) tx f1) (nI it) (nI lt) (nI st) (nI p) tk0 s00 num (nI n) (nI le) (nI sh) ys ss ks ts ba := rfl
    have M : ∀ a b c d, f_X8_reads_L45 (nI len) mx (f2 + 1) a b c d m = f_X8_reads_B45 (nI len) mx (f_X8_reads_L45 (nI len) mx f2) a b c d m := fun _ _ _ _ => rfl
    rw [C]
    unfold f_X6_read_B24
    rw [L9, if_neg (show ¬ nI 9 < nI it from nI_nlt (by omega) (by omega)), L257]
    have go : ∀ (p1 s0 : Nat) (tk num1 so va : Int32), p1 ≤ len → s0 ≤ len → ((∃ l, l < 256 ∧ tk = nI l ∧ so = nI (srtOf l) ∧ va = nI l) ∨ (tk = nI 256 ∧ so = nI 2)) → ∀ X Z, X = (bd (f_X6_readItem (nI len) (nI lt) (nI st) (nI p1) tk (nI s0) num1 (nI n) (nI le) (nI sh) tx ys ss ks ts ba) (fun u2 => if u2.1 = 0 then (some (((-10) - u2.2.2.2.2.2.1), u2.2.1, u2.2.2.1, u2.2.2.2.1, u2.2.2.2.2.1, u2.2.2.2.2.2.1, u2.2.2.2.2.2.2.1, u2.2.2.2.2.2.2.2.1, u2.2.2.2.2.2.2.2.2.1, u2.2.2.2.2.2.2.2.2.2.1, u2.2.2.2.2.2.2.2.2.2.2.1, u2.2.2.2.2.2.2.2.2.2.2.2.1, u2.2.2.2.2.2.2.2.2.2.2.2.2.1, u2.2.2.2.2.2.2.2.2.2.2.2.2.2.1, u2.2.2.2.2.2.2.2.2.2.2.2.2.2.2)) else (f_X6_read_L24 (nI len) tx f1 (nI it + 1) u2.2.1 u2.2.2.1 u2.2.2.2.1 u2.2.2.2.2.1 u2.2.2.2.2.2.1 u2.2.2.2.2.2.2.1 u2.2.2.2.2.2.2.2.1 u2.2.2.2.2.2.2.2.2.1 u2.2.2.2.2.2.2.2.2.2.1 u2.2.2.2.2.2.2.2.2.2.2.1 u2.2.2.2.2.2.2.2.2.2.2.2.1 u2.2.2.2.2.2.2.2.2.2.2.2.2.1 u2.2.2.2.2.2.2.2.2.2.2.2.2.2.1 u2.2.2.2.2.2.2.2.2.2.2.2.2.2.2))) → Z = (bd (f_X8_readsItem (nI len) (nI p1) so (nI s0) va m mx) (fun u1 => if u1.1 = 0 then (some (0, u1.2.1, u1.2.2.1, u1.2.2.2.1, u1.2.2.2.2.1, u1.2.2.2.2.2)) else (bd (f_X8_token (nI len) u1.2.1 mx) (fun u2 => if u2.2.1 = 3 then (ck (ix 3 33) (ck (ix 3 33) (bd (f_X8_token (nI len) u2.1 mx) (fun u3 => f_X8_reads_L45 (nI len) mx f2 u3.1 u3.2.1 u3.2.2.1 u3.2.2.2 (upd u1.2.2.2.2.2 (3 : Int32).toNatClampNeg ((u1.2.2.2.2.2 (3 : Int32).toNatClampNeg) + 1)))))) else (some (0, u2.1, u2.2.1, u2.2.2.1, u2.2.2.2, u1.2.2.2.2.2)))))) → rdF len X Z ∨ rdO X Z := by
      intro p1 s0 tk num1 so va hp1 hs0 ht X Z hX hZ
      rw [L0, L10, L1] at hX
      rw [L0, L3, L1] at hZ
      rcases item_sim h hl hp1 hD hit hs0 tk num1 so va ht with ⟨s, i0, ⟨o, i1, i2, i3⟩, q, i4, i5, i6⟩ | ⟨p', n', Y', S', K', T', le', sh', lt', st', ys', ss', ks', ts', ba', m', tk', s', num', a, b, e, j1, j2, j3, j4, j5⟩
      · left
        rw [i1, qbd, if_pos i2, i3] at hX
        rw [i4, qbd, if_pos i5] at hZ
        exact ⟨s, i0, ⟨_, hX, rfl⟩, _, hZ, rfl, i6⟩
      · have j2' := j2
        obtain ⟨n1, n2, n3, n4, n5, n6, n7, n8, n9, n10, n11, n12⟩ := j2
        have J : f_X6_readItem_J50 (nI len) tx (nI 1) (nI lt') (nI st') (nI p') tk' s' num' (nI n') (nI le') (nI sh') ys' ss' ks' ts' ba' = bd (f_X6_step (nI len) (nI p') num' tx) (fun u1 => if u1.2.1 = nI 59 then (some (nI 1, nI lt', nI st', u1.1, u1.2.1, u1.2.2.1, u1.2.2.2, nI n', nI le', nI sh', ys', ss', ks', ts', ba')) else (some (nI 0, nI lt', nI st', u1.1, u1.2.1, u1.2.2.1, u1.2.2.2, nI n', nI le', nI sh', ys', ss', ks', ts', ba'))) := by
          unfold f_X6_readItem_J50
          rw [L0, L59, L1, if_neg (show ¬ nI 1 = nI 0 by decide)]
        rw [j4, J] at hX
        rw [j5, qbd, if_neg (show ¬ nI 1 = nI 0 by decide)] at hZ
        dsimp only at hZ
        rcases tok h hl j1 num' with ⟨x, y⟩ | ⟨l, s, l1, l2, x, y⟩ | ⟨p2, s, v, w, k1, k2, k3, x, y⟩
        · left
          rw [x, qbd, if_neg (show ¬ nI 257 = nI 59 by decide), qbd, if_pos (show nI 0 = nI 0 from rfl)] at hX
          rw [y, qbd, if_neg (show ¬ nI 0 = nI 3 by decide)] at hZ
          exact ⟨len, Nat.le_refl _, ⟨_, hX, rfl⟩, _, hZ, rfl, rfl⟩
        · by_cases e1 : l = 59
          · subst e1
            rw [x, qbd, if_pos (show nI 59 = nI 59 from rfl), qbd, if_neg (show ¬ nI 1 = nI 0 by decide)] at hX
            rw [y, qbd, if_pos (show nI (srtOf 59) = nI 3 from rfl), qck (show 3 < 33 by omega) (by omega), qck (show 3 < 33 by omega) (by omega)] at hZ
            have hX' : X = f_X6_read_L24 (nI len) tx f1 (nI (it + 1)) (nI lt') (nI st') (nI (s + 1)) (nI 59) (nI s) num' (nI n') (nI le') (nI sh') ys' ss' ks' ts' ba' := by
              rw [hX, nI_add]
            have hZ' : Z = bd (f_X8_token (nI len) (nI (s + 1)) mx) (fun u => f_X8_reads_L45 (nI len) mx f2 u.1 u.2.1 u.2.2.1 u.2.2.2 (upd m' 3 (nI (it + 1)))) := by
              rw [hZ, qcl (by omega)]
              dsimp only
              rw [n9, nI_add]
            rw [hX', hZ']
            refine ih (d - 1) (by omega) (Y := Y') (S := S') (K := K') (T := T') _ _ _ (by omega) (by omega) (by omega) (by omega) ?_ j3
            refine ⟨n1, n2, n3, n4, n5, ?_, ?_, ?_, qu_s, ?_, fun j hj => ?_, n12⟩
            · rw [qu_n (by omega)]; exact n6
            · rw [qu_n (by omega)]; exact n7
            · rw [qu_n (by omega)]; exact n8
            · rw [qu_n (by omega)]; exact n10
            · obtain ⟨z1, z2, z3, z4, z5, z6, z7, z8, z9, z10, z11, z12⟩ := n11 j hj
              refine ⟨z1, z2, z3, z4, z5, ?_, z7, ?_, z9, ?_, z11, ?_⟩
              · rw [qu_n (by omega)]; exact z6
              · rw [qu_n (by omega)]; exact z8
              · rw [qu_n (by omega)]; exact z10
              · rw [qu_n (by omega)]; exact z12
          · left
            have e2 : ¬ nI (srtOf l) = nI 3 := by
              have := srtOf_2 l
              rw [nI_eq (by omega) (by omega)]
              unfold srtOf
              by_cases c1 : l = 112
              · rw [if_pos c1]; omega
              rw [if_neg c1]
              by_cases c2 : l = 108
              · rw [if_pos c2]; omega
              rw [if_neg c2]
              by_cases c3 : l = 115
              · rw [if_pos c3]; omega
              rw [if_neg c3, if_neg e1]
              omega
            rw [x, qbd, if_neg (show ¬ nI l = nI 59 by rw [nI_eq (by omega) (by omega)]; exact e1), qbd, if_pos (show nI 0 = nI 0 from rfl)] at hX
            rw [y, qbd, if_neg e2] at hZ
            exact ⟨s, by omega, ⟨_, hX, rfl⟩, _, hZ, rfl, rfl⟩
        · left
          rw [x, qbd, if_neg (show ¬ nI 256 = nI 59 by decide), qbd, if_pos (show nI 0 = nI 0 from rfl)] at hX
          rw [y, qbd, if_neg (show ¬ nI 2 = nI 3 by decide)] at hZ
          exact ⟨s, by omega, ⟨_, hX, rfl⟩, _, hZ, rfl, rfl⟩
    rcases tok h hl hp num with ⟨x, y⟩ | ⟨l, s, l1, l2, x, y⟩ | ⟨p2, s, v, w, k1, k2, k3, x, y⟩
    · right
      rw [x, y, qbd, qbd, M]
      unfold f_X8_reads_B45
      refine ⟨n, Y, S, K, T, le, sh, lt, st, it, ys, ss, ks, ts, ba, m, hD, by omega, ⟨_, _, _, _, _, _, if_pos rfl⟩, _, _, _, _, if_pos rfl⟩
    · rw [x, y, qbd, qbd, M]
      have s2 := srtOf_2 l
      unfold f_X8_reads_B45
      exact go (s + 1) s (nI l) num (nI (srtOf l)) (nI l) (by omega) (by omega) (Or.inl ⟨l, l1, rfl, rfl, rfl⟩) _ _ (if_neg (show ¬ nI l = nI 257 by rw [nI_eq (by omega) (by omega)]; omega)) (if_neg (show ¬ nI (srtOf l) = nI 0 by rw [nI_eq (by omega) (by omega)]; omega))
    · rw [x, y, qbd, qbd, M]
      unfold f_X8_reads_B45
      exact go p2 s (nI 256) (nI v) (nI 2) (nI w) k1 (by omega) (Or.inr ⟨rfl, rfl⟩) _ _ (if_neg (show ¬ nI 256 = nI 257 by decide)) (if_neg (show ¬ nI 2 = nI 0 by decide))
