abbrev rmX8_in : Room := { frames := 0, cells := 0, slots := 0, locals := 0 }
set_option maxRecDepth 100000 in
set_option maxHeartbeats 4000000 in
theorem c_X8_in (l : Launch) (D : va_G) (cI cZ cR : ClassId) (v0 : Int32) (v1 : Int32) (v2 : Int32) (out : Int32) (hf : f_X8_in v0 v1 v2 = some out) : Ci l yX8_in wsX8_in rmX8_in D cI cZ cR [.int v0, .int v1, .int v2] [] out [] := by
  refine ent_i (cc := cX8_in) (maxL := 3) .boolean (by decide) rfl (Nat.le_of_ble_eq_true rfl) ?_
  intro p e s m below meth c A Q hx hb hml hown hts hE hA hP hD hS hret ls hl
  have hown : s.vm.findClass RX8 = some m.cls := hown
  have hl : lv_has ls 3 [(0, .int v0), (1, .int v1), (2, .int v2)] := hl
  unfold f_X8_in at hf
  refine lv_iload_n hx hb dX8_in_0 rfl (lv_at hl 0 rfl) ?_
  refine lv_iload_n hx hb dX8_in_1 rfl (lv_at hl 1 rfl) ?_
  refine lv_icmp_lt (tgt := 14) hx hb dX8_in_2 (by decide) (fun hc1 => ?_) (fun hc1 => ?_)
  · have hf := if_t hf hc1
    refine lv_iconst (v := 0) hx hb dX8_in_14 (by decide) ?_
    have he := Option.some.inj hf
    subst he
    exact hret _ _ _ _ dX8_in_15 bn0 hP hD hS
  · have hf := if_f hf hc1
    refine lv_iload_n hx hb dX8_in_5 rfl (lv_at hl 0 rfl) ?_
    refine lv_iload_n hx hb dX8_in_6 rfl (lv_at hl 2 rfl) ?_
    refine lv_icmp_gt (tgt := 14) hx hb dX8_in_7 (by decide) (fun hc2 => ?_) (fun hc2 => ?_)
    · have hf := if_t hf hc2
      refine lv_iconst (v := 0) hx hb dX8_in_14 (by decide) ?_
      have he := Option.some.inj hf
      subst he
      exact hret _ _ _ _ dX8_in_15 bn0 hP hD hS
    · have hf := if_f hf hc2
      refine lv_iconst (v := 1) hx hb dX8_in_10 (by decide) ?_
      refine lv_goto (tgt := 15) hx hb dX8_in_11 (by decide) ?_
      have he := Option.some.inj hf
      subst he
      exact hret _ _ _ _ dX8_in_15 bn1 hP hD hS
abbrev rmX8_isPan : Room := { frames := 1, cells := 0, slots := 0, locals := 22 }
theorem hiX8_isPan_8 : ∀ w ∈ wsX80, w ∈ wsX8_isPan := fun w h => (goodIn_r (big := wsX8_isPan) wsX80 [6, 7, 8, 9, 10, 11, 12, 13, 14, 15, 16, 17, 18, 19, 20, 21, 22, 23, 24] rfl (by decide +kernel) w h).1
theorem cw_X8_isPan_X8_in_51 {s : State} {args : Array Value} (hts : ∀ x ∈ wsX8_isPan, x.before args s = true) : CallB rmX8_isPan s args RX8 51 yX8_in cX8_in 3 (some .boolean) wsX8_in rmX8_in 0 0 3 ∧ (Cond.static yX8_in).before args s = true := va_cwS 3 hts gX8_isPan_X8_in rfl rfl rfl (by decide +kernel) ⟨Nat.le_of_ble_eq_true rfl, Nat.le_of_ble_eq_true rfl⟩
set_option maxRecDepth 100000 in
set_option maxHeartbeats 4000000 in
theorem c_X8_isPan (l : Launch) (D : va_G) (cI cZ cR : ClassId) (a_m : Nat) (a_m_told : Nat) (a_m_text : Nat) (a_m_draft : Nat) (a_m_s : Nat) (a_m_past : Nat) (a_m_images : Nat) (a_m_kept : Nat) (a_m_notes : Nat) (a_m_noted : Nat) (a_m_held : Nat) (a_m_few : Nat) (m_trace : Int64) (m_typed : Int32) (m_known : Int32) (m_many : Int32) (m_at : Int32) (m_sort : Int32) (m_start : Int32) (m_value : Int32) (m_told : Nat → Int32) (v1 : Int32) (out : Int32) (hf : f_X8_isPan m_told v1 = some out) : Ci l yX8_isPan wsX8_isPan rmX8_isPan D cI cZ cR [.ref a_m, .int v1] [(a_m, .inr (8, [.long m_trace, .ref a_m_text, .int m_typed, .ref a_m_told, .ref a_m_draft, .ref a_m_s, .ref a_m_past, .int m_known, .ref a_m_images, .ref a_m_kept, .ref a_m_notes, .ref a_m_noted, .int m_many, .int m_at, .int m_sort, .int m_start, .int m_value, .ref a_m_held, .ref a_m_few])), (a_m_told, .inl (cI, 33, .inl m_told))] out [(a_m, .inr (8, [.long m_trace, .ref a_m_text, .int m_typed, .ref a_m_told, .ref a_m_draft, .ref a_m_s, .ref a_m_past, .int m_known, .ref a_m_images, .ref a_m_kept, .ref a_m_notes, .ref a_m_noted, .int m_many, .int m_at, .int m_sort, .int m_start, .int m_value, .ref a_m_held, .ref a_m_few])), (a_m_told, .inl (cI, 33, .inl m_told))] := by
  refine ent_i (cc := cX8_isPan) (maxL := 2) .boolean (by decide) rfl (Nat.le_of_ble_eq_true rfl) ?_
  intro p e s m below meth c A Q hx hb hml hown hts hE hA hP hD hS hret ls hl
  have hown : s.vm.findClass RX8 = some m.cls := hown
  have hl : lv_has ls 2 [(0, .ref a_m), (1, .int v1)] := hl
  have fL13 := hts (.fieldLink RX8 13 "RainShelvesModel" "told" "[I") (List.mem_of_getElem? (i := 1) rfl)
  unfold f_X8_isPan at hf
  refine lv_iload_n hx hb dX8_isPan_0 rfl (lv_at hl 1 rfl) ?_
  refine lv_iconst (v := 0) hx hb dX8_isPan_1 (by decide) ?_
  refine lv_aload_n hx hb dX8_isPan_2 rfl (lv_at hl 0 rfl) ?_
  refine va_get (D := D) (ci := 8) (v := .ref a_m_told) (C := RX8) (T := TX8) (N := 19) hx hb hts hiX8_isPan_8 hown hE.1 hP 0 rfl rfl 3 (by decide) fL13 (fun _ h9 => h9) rfl dX8_isPan_3 ?_
  refine lv_iconst (v := 0) hx hb dX8_isPan_6 (by decide) ?_
  obtain ⟨hc1, hf⟩ := ck_some hf
  refine va_iald hx hb hE.1 hP 1 0 rfl rfl (ix_in hc1) dX8_isPan_7 ?_
  refine lv_iconst (v := 1) hx hb dX8_isPan_8 (by decide) ?_
  refine lv_isub hx hb dX8_isPan_9 ?_
  obtain ⟨u1, hu1, hf⟩ := bd_some hf
  refine cl_iS (As := [.int v1, .int 0, .int ((m_told (0 : Int32).toNatClampNeg) - 1)]) (rest := []) ⟨hx, hb, hml, hown, hts⟩ (c_X8_in l D cI cZ cR   v1 0 ((m_told (0 : Int32).toNatClampNeg) - 1) u1 hu1) (cw_X8_isPan_X8_in_51 hts) hE hP hD hS hA rfl hl.1 rfl (Nat.le_of_ble_eq_true rfl) dX8_isPan_10 ⟨Nat.zero_le _, Nat.zero_le _⟩ (fun H locs hP hS => ?_)
  obtain ⟨hc2, hf⟩ := ck_some hf
  have he := Option.some.inj hf
  subst he
  exact hret _ _ _ _ dX8_isPan_13 (bo_nar hc2) hP hD hS
abbrev rmX8_ones : Room := { frames := 0, cells := 0, slots := 0, locals := 0 }
set_option maxRecDepth 100000 in
set_option maxHeartbeats 4000000 in
theorem c_X8_ones (l : Launch) (D : va_G) (cI cZ cR : ClassId) (v0 : Int32) (out : Int32) (hf : f_X8_ones v0 = some out) : Ci l yX8_ones wsX8_ones rmX8_ones D cI cZ cR [.int v0] [] out [] := by
  refine ent_i (cc := cX8_ones) (maxL := 3) .int (by decide) rfl (Nat.le_of_ble_eq_true rfl) ?_
  intro p e s m below meth c A Q hx hb hml hown hts hE hA hP hD hS hret ls hl
  have hown : s.vm.findClass RX8 = some m.cls := hown
  have hl : lv_has ls 3 [(0, .int v0)] := hl
  unfold f_X8_ones at hf
  have L4 : ∀ (n4 : Nat) (v1_4 : Int32) (v2_4 : Int32), f_X8_ones_L4 v0 n4 v1_4 v2_4 = some out → ∀ (H : Heap) (locs : List Loc) (ls : Array Slot), PD D A [] H → va_S A s.heap H locs → lv_has ls 3 [(0, .int v0), (1, .int v1_4), (2, .int v2_4)] → W p l e rmX8_ones s m ([.int v0] : List Value).toArray below meth c H locs 0 0 Q (F0 m 4 ls []) := by
    intro  n4
    induction n4 with
    | zero => intro v1_4 v2_4 hf; cases hf
    | succ n4 ih4 =>
      intro v1_4 v2_4 hf H locs ls hPD hS hl
      obtain ⟨hP, hD⟩ := hPD
      have hf : f_X8_ones_B4 v0 (f_X8_ones_L4 v0 n4) v1_4 v2_4 = some out := hf
      unfold f_X8_ones_B4 at hf
      refine lv_iload_n hx hb dX8_ones_4 rfl (lv_at hl 2 rfl) ?_
      refine lv_bipush (v := 7) hx hb dX8_ones_5 (by decide) ?_
      refine lv_icmp_ge (tgt := 24) hx hb dX8_ones_7 (by decide) (fun hc1 => ?_) (fun hc1 => ?_)
      · have hf := if_t hf hc1
        refine lv_iload_n hx hb dX8_ones_24 rfl (lv_at hl 1 rfl) ?_
        have he := Option.some.inj hf
        subst he
        exact hret _ _ _ _ dX8_ones_25 rfl hP hD hS
      · have hf := if_f hf hc1
        refine lv_iload_n hx hb dX8_ones_10 rfl (lv_at hl 1 rfl) ?_
        refine lv_iload_n hx hb dX8_ones_11 rfl (lv_at hl 0 rfl) ?_
        refine lv_iload_n hx hb dX8_ones_12 rfl (lv_at hl 2 rfl) ?_
        refine lv_ishr hx hb dX8_ones_13 ?_
        refine lv_iconst (v := 1) hx hb dX8_ones_14 (by decide) ?_
        refine lv_iand hx hb dX8_ones_15 ?_
        refine lv_iadd hx hb dX8_ones_16 ?_
        refine lv_istore_n (lv' := [(1, .int (v1_4 + ((v0 >>> (v2_4 &&& 31)) &&& 1))), (0, .int v0), (2, .int v2_4)]) hx hb dX8_ones_17 rfl hl (by decide) rfl (fun ls hl => ?_)
        refine lv_iinc (v := (v2_4 + 1)) (lv' := [(2, .int (v2_4 + 1)), (1, .int (v1_4 + ((v0 >>> (v2_4 &&& 31)) &&& 1))), (0, .int v0)]) hx hb dX8_ones_18 hl (k := 2) rfl (ii_p1 _) (by decide) rfl (fun ls hl => ?_)
        refine lv_goto (tgt := 4) hx hb dX8_ones_21 (by decide) ?_
        exact ih4 (v1_4 + ((v0 >>> (v2_4 &&& 31)) &&& 1)) (v2_4 + 1) hf _ _ _ ⟨hP, hD⟩ hS (lv_sub hl [2, 1, 0] rfl)
  refine lv_iconst (v := 0) hx hb dX8_ones_0 (by decide) ?_
  refine lv_istore_n (lv' := [(1, .int 0), (0, .int v0)]) hx hb dX8_ones_1 rfl hl (by decide) rfl (fun ls hl => ?_)
  refine lv_iconst (v := 0) hx hb dX8_ones_2 (by decide) ?_
  refine lv_istore_n (lv' := [(2, .int 0), (1, .int 0), (0, .int v0)]) hx hb dX8_ones_3 rfl hl (by decide) rfl (fun ls hl => ?_)
  exact L4  FU 0 0 hf _ _ _ ⟨hP, hD⟩ hS (lv_sub hl [2, 1, 0] rfl)
abbrev rmX8_type : Room := { frames := 1, cells := 0, slots := 0, locals := 22 }
theorem hiX8_type_8 : ∀ w ∈ wsX80, w ∈ wsX8_type := fun w h => (goodIn_r (big := wsX8_type) wsX80 [7, 8, 9, 10, 11, 12, 13, 14, 15, 16, 17, 18, 19, 20, 21, 22, 23, 24, 25] rfl (by decide +kernel) w h).1
theorem cw_X8_type_X8_in_51 {s : State} {args : Array Value} (hts : ∀ x ∈ wsX8_type, x.before args s = true) : CallB rmX8_type s args RX8 51 yX8_in cX8_in 3 (some .boolean) wsX8_in rmX8_in 0 0 3 ∧ (Cond.static yX8_in).before args s = true := va_cwS 3 hts gX8_type_X8_in rfl rfl rfl (by decide +kernel) ⟨Nat.le_of_ble_eq_true rfl, Nat.le_of_ble_eq_true rfl⟩
set_option maxRecDepth 100000 in
set_option maxHeartbeats 4000000 in
theorem c_X8_type (l : Launch) (D : va_G) (cI cZ cR : ClassId) (a_m : Nat) (a_m_text : Nat) (a_m_told : Nat) (a_m_draft : Nat) (a_m_s : Nat) (a_m_past : Nat) (a_m_images : Nat) (a_m_kept : Nat) (a_m_notes : Nat) (a_m_noted : Nat) (a_m_held : Nat) (a_m_few : Nat) (m_trace : Int64) (m_typed : Int32) (m_known : Int32) (m_many : Int32) (m_at : Int32) (m_sort : Int32) (m_start : Int32) (m_value : Int32) (m_text : Nat → Int32) (v1 : Int32) (out : Int32 × Int32 × (Nat → Int32)) (hf : f_X8_type m_typed m_text v1 = some out) : Ci l yX8_type wsX8_type rmX8_type D cI cZ cR [.ref a_m, .int v1] [(a_m, .inr (8, [.long m_trace, .ref a_m_text, .int m_typed, .ref a_m_told, .ref a_m_draft, .ref a_m_s, .ref a_m_past, .int m_known, .ref a_m_images, .ref a_m_kept, .ref a_m_notes, .ref a_m_noted, .int m_many, .int m_at, .int m_sort, .int m_start, .int m_value, .ref a_m_held, .ref a_m_few])), (a_m_text, .inl (cI, 200, .inl m_text))] out.1 [(a_m, .inr (8, [.long m_trace, .ref a_m_text, .int out.2.1, .ref a_m_told, .ref a_m_draft, .ref a_m_s, .ref a_m_past, .int m_known, .ref a_m_images, .ref a_m_kept, .ref a_m_notes, .ref a_m_noted, .int m_many, .int m_at, .int m_sort, .int m_start, .int m_value, .ref a_m_held, .ref a_m_few])), (a_m_text, .inl (cI, 200, .inl out.2.2))] := by
  refine ent_i (cc := cX8_type) (maxL := 2) .int (by decide) rfl (Nat.le_of_ble_eq_true rfl) ?_
  intro p e s m below meth c A Q hx hb hml hown hts hE hA hP hD hS hret ls hl
  have hown : s.vm.findClass RX8 = some m.cls := hown
  have hl : lv_has ls 2 [(0, .ref a_m), (1, .int v1)] := hl
  have fL7 := hts (.fieldLink RX8 7 "RainShelvesModel" "text" "[I") (List.mem_of_getElem? (i := 2) rfl)
  have fL55 := hts (.fieldLink RX8 55 "RainShelvesModel" "typed" "I") (List.mem_of_getElem? (i := 1) rfl)
  unfold f_X8_type at hf
  refine lv_iload_n hx hb dX8_type_0 rfl (lv_at hl 1 rfl) ?_
  refine lv_iconst (v := 0) hx hb dX8_type_1 (by decide) ?_
  refine lv_sipush (v := 255) hx hb dX8_type_2 (by decide) ?_
  obtain ⟨u1, hu1, hf⟩ := bd_some hf
  refine cl_iS (As := [.int v1, .int 0, .int 255]) (rest := []) ⟨hx, hb, hml, hown, hts⟩ (c_X8_in l D cI cZ cR   v1 0 255 u1 hu1) (cw_X8_type_X8_in_51 hts) hE hP hD hS hA rfl hl.1 rfl (Nat.le_of_ble_eq_true rfl) dX8_type_5 ⟨Nat.zero_le _, Nat.zero_le _⟩ (fun H locs hP hS => ?_)
  refine lv_if_ne (tgt := 13) hx hb dX8_type_8 (by decide) (fun hc1 => ?_) (fun hc1 => ?_)
  · have hf := if_f hf hc1
    refine lv_aload_n hx hb dX8_type_13 rfl (lv_at hl 0 rfl) ?_
    refine va_get (D := D) (ci := 8) (v := .int m_typed) (C := RX8) (T := TX8) (N := 19) hx hb hts hiX8_type_8 hown hE.1 hP 0 rfl rfl 2 (by decide) fL55 (fun _ h9 => h9) rfl dX8_type_14 ?_
    refine lv_sipush (v := 200) hx hb dX8_type_17 (by decide) ?_
    refine lv_icmp_ne (tgt := 26) hx hb dX8_type_20 (by decide) (fun hc2 => ?_) (fun hc2 => ?_)
    · have hf := if_f hf hc2
      refine lv_aload_n hx hb dX8_type_26 rfl (lv_at hl 0 rfl) ?_
      refine va_get (D := D) (ci := 8) (v := .ref a_m_text) (C := RX8) (T := TX8) (N := 19) hx hb hts hiX8_type_8 hown hE.1 hP 0 rfl rfl 1 (by decide) fL7 (fun _ h9 => h9) rfl dX8_type_27 ?_
      refine lv_aload_n hx hb dX8_type_30 rfl (lv_at hl 0 rfl) ?_
      refine va_get (D := D) (ci := 8) (v := .int m_typed) (C := RX8) (T := TX8) (N := 19) hx hb hts hiX8_type_8 hown hE.1 hP 0 rfl rfl 2 (by decide) fL55 (fun _ h9 => h9) rfl dX8_type_31 ?_
      refine lv_iload_n hx hb dX8_type_34 rfl (lv_at hl 1 rfl) ?_
      obtain ⟨hc3, hf⟩ := ck_some hf
      refine va_iast hx hb hE.1 hP hD hS 1 0 rfl rfl (ix_in hc3) dX8_type_35 (fun H locs hP hD hS => ?_)
      have hPD : PD D A [(a_m, .inr (8, [.long m_trace, .ref a_m_text, .int m_typed, .ref a_m_told, .ref a_m_draft, .ref a_m_s, .ref a_m_past, .int m_known, .ref a_m_images, .ref a_m_kept, .ref a_m_notes, .ref a_m_noted, .int m_many, .int m_at, .int m_sort, .int m_start, .int m_value, .ref a_m_held, .ref a_m_few])), (a_m_text, .inl (cI, 200, .inl (upd m_text m_typed.toNatClampNeg v1)))] H := ⟨hP, hD⟩
      obtain ⟨hP, hD⟩ := hPD
      refine lv_aload_n hx hb dX8_type_36 rfl (lv_at hl 0 rfl) ?_
      refine lv_dup hx hb dX8_type_37 rfl ?_
      refine va_get (D := D) (ci := 8) (v := .int m_typed) (C := RX8) (T := TX8) (N := 19) hx hb hts hiX8_type_8 hown hE.1 hP 0 rfl rfl 2 (by decide) fL55 (fun _ h9 => h9) rfl dX8_type_38 ?_
      refine lv_iconst (v := 1) hx hb dX8_type_41 (by decide) ?_
      refine lv_iadd hx hb dX8_type_42 ?_
      refine va_put (D := D) (ci := 8) (v := .int (m_typed + 1)) (ty := .int) (C := RX8) (T := TX8) (N := 19) hx hb hts hiX8_type_8 tyX8 tyX8_ok nmX8 hown hE.1 hP hD hS 0 rfl rfl 2 (by decide) fL55 (fun _ h9 => h9) rfl (tyX8_ok 2 (by decide)) rfl rfl (Nat.le_of_ble_eq_true rfl) dX8_type_43 (fun H locs hP hD hS => ?_)
      have hPD : PD D A [(a_m, .inr (8, [.long m_trace, .ref a_m_text, .int (m_typed + 1), .ref a_m_told, .ref a_m_draft, .ref a_m_s, .ref a_m_past, .int m_known, .ref a_m_images, .ref a_m_kept, .ref a_m_notes, .ref a_m_noted, .int m_many, .int m_at, .int m_sort, .int m_start, .int m_value, .ref a_m_held, .ref a_m_few])), (a_m_text, .inl (cI, 200, .inl (upd m_text m_typed.toNatClampNeg v1)))] H := ⟨hP, hD⟩
      obtain ⟨hP, hD⟩ := hPD
      refine lv_aload_n hx hb dX8_type_46 rfl (lv_at hl 0 rfl) ?_
      refine va_get (D := D) (ci := 8) (v := .int (m_typed + 1)) (C := RX8) (T := TX8) (N := 19) hx hb hts hiX8_type_8 hown hE.1 hP 0 rfl rfl 2 (by decide) fL55 (fun _ h9 => h9) rfl dX8_type_47 ?_
      have he := Option.some.inj hf
      subst he
      exact hret _ _ _ _ dX8_type_50 rfl hP hD hS
    · have hf := if_t hf hc2
      refine lv_bipush (v := (-3)) hx hb dX8_type_23 (by decide) ?_
      have he := Option.some.inj hf
      subst he
      exact hret _ _ _ _ dX8_type_25 rfl hP hD hS
  · have hf := if_t hf hc1
    refine lv_iconst (v := (-1)) hx hb dX8_type_11 (by decide) ?_
    have he := Option.some.inj hf
    subst he
    exact hret _ _ _ _ dX8_type_12 rfl hP hD hS
abbrev rmX8_clear : Room := { frames := 0, cells := 0, slots := 0, locals := 0 }
theorem hiX8_clear_8 : ∀ w ∈ wsX80, w ∈ wsX8_clear := fun w h => (goodIn_r (big := wsX8_clear) wsX80 [2, 3, 4, 5, 6, 7, 8, 9, 10, 11, 12, 13, 14, 15, 16, 17, 18, 19, 20] rfl (by decide +kernel) w h).1
set_option maxRecDepth 100000 in
set_option maxHeartbeats 4000000 in
theorem c_X8_clear (l : Launch) (D : va_G) (cI cZ cR : ClassId) (a_m : Nat) (a_m_text : Nat) (a_m_told : Nat) (a_m_draft : Nat) (a_m_s : Nat) (a_m_past : Nat) (a_m_images : Nat) (a_m_kept : Nat) (a_m_notes : Nat) (a_m_noted : Nat) (a_m_held : Nat) (a_m_few : Nat) (m_trace : Int64) (m_typed : Int32) (m_known : Int32) (m_many : Int32) (m_at : Int32) (m_sort : Int32) (m_start : Int32) (m_value : Int32) (out : Int32 × Int32) (hf : f_X8_clear m_typed = some out) : Ci l yX8_clear wsX8_clear rmX8_clear D cI cZ cR [.ref a_m] [(a_m, .inr (8, [.long m_trace, .ref a_m_text, .int m_typed, .ref a_m_told, .ref a_m_draft, .ref a_m_s, .ref a_m_past, .int m_known, .ref a_m_images, .ref a_m_kept, .ref a_m_notes, .ref a_m_noted, .int m_many, .int m_at, .int m_sort, .int m_start, .int m_value, .ref a_m_held, .ref a_m_few]))] out.1 [(a_m, .inr (8, [.long m_trace, .ref a_m_text, .int out.2, .ref a_m_told, .ref a_m_draft, .ref a_m_s, .ref a_m_past, .int m_known, .ref a_m_images, .ref a_m_kept, .ref a_m_notes, .ref a_m_noted, .int m_many, .int m_at, .int m_sort, .int m_start, .int m_value, .ref a_m_held, .ref a_m_few]))] := by
  refine ent_i (cc := cX8_clear) (maxL := 2) .int (by decide) rfl (Nat.le_of_ble_eq_true rfl) ?_
  intro p e s m below meth c A Q hx hb hml hown hts hE hA hP hD hS hret ls hl
  have hown : s.vm.findClass RX8 = some m.cls := hown
  have hl : lv_has ls 2 [(0, .ref a_m)] := hl
  have fL55 := hts (.fieldLink RX8 55 "RainShelvesModel" "typed" "I") (List.mem_of_getElem? (i := 1) rfl)
  unfold f_X8_clear at hf
  refine lv_aload_n hx hb dX8_clear_0 rfl (lv_at hl 0 rfl) ?_
  refine va_get (D := D) (ci := 8) (v := .int m_typed) (C := RX8) (T := TX8) (N := 19) hx hb hts hiX8_clear_8 hown hE.1 hP 0 rfl rfl 2 (by decide) fL55 (fun _ h9 => h9) rfl dX8_clear_1 ?_
  refine lv_istore_n (lv' := [(1, .int m_typed), (0, .ref a_m)]) hx hb dX8_clear_4 rfl hl (by decide) rfl (fun ls hl => ?_)
  refine lv_aload_n hx hb dX8_clear_5 rfl (lv_at hl 1 rfl) ?_
  refine lv_iconst (v := 0) hx hb dX8_clear_6 (by decide) ?_
  refine va_put (D := D) (ci := 8) (v := .int 0) (ty := .int) (C := RX8) (T := TX8) (N := 19) hx hb hts hiX8_clear_8 tyX8 tyX8_ok nmX8 hown hE.1 hP hD hS 0 rfl rfl 2 (by decide) fL55 (fun _ h9 => h9) rfl (tyX8_ok 2 (by decide)) rfl rfl (Nat.le_of_ble_eq_true rfl) dX8_clear_7 (fun H locs hP hD hS => ?_)
  have hPD : PD D A [(a_m, .inr (8, [.long m_trace, .ref a_m_text, .int 0, .ref a_m_told, .ref a_m_draft, .ref a_m_s, .ref a_m_past, .int m_known, .ref a_m_images, .ref a_m_kept, .ref a_m_notes, .ref a_m_noted, .int m_many, .int m_at, .int m_sort, .int m_start, .int m_value, .ref a_m_held, .ref a_m_few]))] H := ⟨hP, hD⟩
  obtain ⟨hP, hD⟩ := hPD
  refine lv_iload_n hx hb dX8_clear_10 rfl (lv_at hl 0 rfl) ?_
  have he := Option.some.inj hf
  subst he
  exact hret _ _ _ _ dX8_clear_11 rfl hP hD hS
abbrev rmX8_letterAt : Room := { frames := 0, cells := 0, slots := 0, locals := 0 }
theorem hiX8_letterAt_8 : ∀ w ∈ wsX80, w ∈ wsX8_letterAt := fun w h => (goodIn_r (big := wsX8_letterAt) wsX80 [3, 4, 5, 6, 7, 8, 9, 10, 11, 12, 13, 14, 15, 16, 17, 18, 19, 20, 21] rfl (by decide +kernel) w h).1
set_option maxRecDepth 100000 in
set_option maxHeartbeats 4000000 in
theorem c_X8_letterAt (l : Launch) (D : va_G) (cI cZ cR : ClassId) (a_m : Nat) (a_m_text : Nat) (a_m_told : Nat) (a_m_draft : Nat) (a_m_s : Nat) (a_m_past : Nat) (a_m_images : Nat) (a_m_kept : Nat) (a_m_notes : Nat) (a_m_noted : Nat) (a_m_held : Nat) (a_m_few : Nat) (m_trace : Int64) (m_typed : Int32) (m_known : Int32) (m_many : Int32) (m_at : Int32) (m_sort : Int32) (m_start : Int32) (m_value : Int32) (m_text : Nat → Int32) (v1 : Int32) (out : Int32) (hf : f_X8_letterAt m_typed m_text v1 = some out) : Ci l yX8_letterAt wsX8_letterAt rmX8_letterAt D cI cZ cR [.ref a_m, .int v1] [(a_m, .inr (8, [.long m_trace, .ref a_m_text, .int m_typed, .ref a_m_told, .ref a_m_draft, .ref a_m_s, .ref a_m_past, .int m_known, .ref a_m_images, .ref a_m_kept, .ref a_m_notes, .ref a_m_noted, .int m_many, .int m_at, .int m_sort, .int m_start, .int m_value, .ref a_m_held, .ref a_m_few])), (a_m_text, .inl (cI, 200, .inl m_text))] out [(a_m, .inr (8, [.long m_trace, .ref a_m_text, .int m_typed, .ref a_m_told, .ref a_m_draft, .ref a_m_s, .ref a_m_past, .int m_known, .ref a_m_images, .ref a_m_kept, .ref a_m_notes, .ref a_m_noted, .int m_many, .int m_at, .int m_sort, .int m_start, .int m_value, .ref a_m_held, .ref a_m_few])), (a_m_text, .inl (cI, 200, .inl m_text))] := by
  refine ent_i (cc := cX8_letterAt) (maxL := 2) .int (by decide) rfl (Nat.le_of_ble_eq_true rfl) ?_
  intro p e s m below meth c A Q hx hb hml hown hts hE hA hP hD hS hret ls hl
  have hown : s.vm.findClass RX8 = some m.cls := hown
  have hl : lv_has ls 2 [(0, .ref a_m), (1, .int v1)] := hl
  have fL7 := hts (.fieldLink RX8 7 "RainShelvesModel" "text" "[I") (List.mem_of_getElem? (i := 2) rfl)
  have fL55 := hts (.fieldLink RX8 55 "RainShelvesModel" "typed" "I") (List.mem_of_getElem? (i := 1) rfl)
  unfold f_X8_letterAt at hf
  refine lv_iload_n hx hb dX8_letterAt_0 rfl (lv_at hl 1 rfl) ?_
  refine lv_aload_n hx hb dX8_letterAt_1 rfl (lv_at hl 0 rfl) ?_
  refine va_get (D := D) (ci := 8) (v := .int m_typed) (C := RX8) (T := TX8) (N := 19) hx hb hts hiX8_letterAt_8 hown hE.1 hP 0 rfl rfl 2 (by decide) fL55 (fun _ h9 => h9) rfl dX8_letterAt_2 ?_
  refine lv_icmp_ge (tgt := 17) hx hb dX8_letterAt_5 (by decide) (fun hc1 => ?_) (fun hc1 => ?_)
  · have hf := if_t hf hc1
    refine lv_iconst (v := (-1)) hx hb dX8_letterAt_17 (by decide) ?_
    have he := Option.some.inj hf
    subst he
    exact hret _ _ _ _ dX8_letterAt_18 rfl hP hD hS
  · have hf := if_f hf hc1
    refine lv_aload_n hx hb dX8_letterAt_8 rfl (lv_at hl 0 rfl) ?_
    refine va_get (D := D) (ci := 8) (v := .ref a_m_text) (C := RX8) (T := TX8) (N := 19) hx hb hts hiX8_letterAt_8 hown hE.1 hP 0 rfl rfl 1 (by decide) fL7 (fun _ h9 => h9) rfl dX8_letterAt_9 ?_
    refine lv_iload_n hx hb dX8_letterAt_12 rfl (lv_at hl 1 rfl) ?_
    obtain ⟨hc2, hf⟩ := ck_some hf
    refine va_iald hx hb hE.1 hP 1 0 rfl rfl (ix_in hc2) dX8_letterAt_13 ?_
    refine lv_goto (tgt := 18) hx hb dX8_letterAt_14 (by decide) ?_
    have he := Option.some.inj hf
    subst he
    exact hret _ _ _ _ dX8_letterAt_18 rfl hP hD hS
abbrev rmX8_isDigit : Room := { frames := 1, cells := 0, slots := 0, locals := 22 }
theorem cw_X8_isDigit_X8_in_51 {s : State} {args : Array Value} (hts : ∀ x ∈ wsX8_isDigit, x.before args s = true) : CallB rmX8_isDigit s args RX8 51 yX8_in cX8_in 3 (some .boolean) wsX8_in rmX8_in 0 0 3 ∧ (Cond.static yX8_in).before args s = true := va_cwS 3 hts gX8_isDigit_X8_in rfl rfl rfl (by decide +kernel) ⟨Nat.le_of_ble_eq_true rfl, Nat.le_of_ble_eq_true rfl⟩
set_option maxRecDepth 100000 in
set_option maxHeartbeats 4000000 in
theorem c_X8_isDigit (l : Launch) (D : va_G) (cI cZ cR : ClassId) (v0 : Int32) (out : Int32) (hf : f_X8_isDigit v0 = some out) : Ci l yX8_isDigit wsX8_isDigit rmX8_isDigit D cI cZ cR [.int v0] [] out [] := by
  refine ent_i (cc := cX8_isDigit) (maxL := 1) .boolean (by decide) rfl (Nat.le_of_ble_eq_true rfl) ?_
  intro p e s m below meth c A Q hx hb hml hown hts hE hA hP hD hS hret ls hl
  have hown : s.vm.findClass RX8 = some m.cls := hown
  have hl : lv_has ls 1 [(0, .int v0)] := hl
  unfold f_X8_isDigit at hf
  refine lv_iload_n hx hb dX8_isDigit_0 rfl (lv_at hl 0 rfl) ?_
  refine lv_bipush (v := 48) hx hb dX8_isDigit_1 (by decide) ?_
  refine lv_bipush (v := 57) hx hb dX8_isDigit_3 (by decide) ?_
  obtain ⟨u1, hu1, hf⟩ := bd_some hf
  refine cl_iS (As := [.int v0, .int 48, .int 57]) (rest := []) ⟨hx, hb, hml, hown, hts⟩ (c_X8_in l D cI cZ cR   v0 48 57 u1 hu1) (cw_X8_isDigit_X8_in_51 hts) hE hP hD hS hA rfl hl.1 rfl (Nat.le_of_ble_eq_true rfl) dX8_isDigit_5 ⟨Nat.zero_le _, Nat.zero_le _⟩ (fun H locs hP hS => ?_)
  obtain ⟨hc1, hf⟩ := ck_some hf
  have he := Option.some.inj hf
  subst he
  exact hret _ _ _ _ dX8_isDigit_8 (bo_nar hc1) hP hD hS
abbrev rmX8_token : Room := { frames := 2, cells := 0, slots := 0, locals := 42 }
theorem hiX8_token_8 : ∀ w ∈ wsX80, w ∈ wsX8_token := fun w h => (goodIn_r (big := wsX8_token) wsX80 [18, 19, 20, 21, 22, 23, 24, 25, 26, 27, 28, 29, 30, 31, 32, 33, 34, 35, 36] rfl (by decide +kernel) w h).1
theorem cw_X8_token_X8_letterAt_62 {s : State} {args : Array Value} (hts : ∀ x ∈ wsX8_token, x.before args s = true) : CallW rmX8_token s args RX8 RX8 62 yX8_letterAt cX8_letterAt 2 (some .int) wsX8_letterAt rmX8_letterAt 0 0 1 := cwV 1 hts gX8_token_X8_letterAt rfl rfl rfl (by decide +kernel) ⟨Nat.le_of_ble_eq_true rfl, Nat.le_of_ble_eq_true rfl⟩
theorem cw_X8_token_X8_isDigit_69 {s : State} {args : Array Value} (hts : ∀ x ∈ wsX8_token, x.before args s = true) : CallB rmX8_token s args RX8 69 yX8_isDigit cX8_isDigit 1 (some .boolean) wsX8_isDigit rmX8_isDigit 0 0 1 ∧ (Cond.static yX8_isDigit).before args s = true := va_cwS 1 hts gX8_token_X8_isDigit rfl rfl rfl (by decide +kernel) ⟨Nat.le_of_ble_eq_true rfl, Nat.le_of_ble_eq_true rfl⟩
set_option maxRecDepth 100000 in
set_option maxHeartbeats 4000000 in
theorem c_X8_token (l : Launch) (D : va_G) (cI cZ cR : ClassId) (a_m : Nat) (a_m_text : Nat) (a_m_told : Nat) (a_m_draft : Nat) (a_m_s : Nat) (a_m_past : Nat) (a_m_images : Nat) (a_m_kept : Nat) (a_m_notes : Nat) (a_m_noted : Nat) (a_m_held : Nat) (a_m_few : Nat) (m_trace : Int64) (m_typed : Int32) (m_known : Int32) (m_many : Int32) (m_at : Int32) (m_sort : Int32) (m_start : Int32) (m_value : Int32) (m_text : Nat → Int32) (out : Int32 × Int32 × Int32 × Int32) (hf : f_X8_token m_typed m_at m_text = some out) : Cv l yX8_token wsX8_token rmX8_token D cI cZ cR [.ref a_m] [(a_m, .inr (8, [.long m_trace, .ref a_m_text, .int m_typed, .ref a_m_told, .ref a_m_draft, .ref a_m_s, .ref a_m_past, .int m_known, .ref a_m_images, .ref a_m_kept, .ref a_m_notes, .ref a_m_noted, .int m_many, .int m_at, .int m_sort, .int m_start, .int m_value, .ref a_m_held, .ref a_m_few])), (a_m_text, .inl (cI, 200, .inl m_text))] [(a_m, .inr (8, [.long m_trace, .ref a_m_text, .int m_typed, .ref a_m_told, .ref a_m_draft, .ref a_m_s, .ref a_m_past, .int m_known, .ref a_m_images, .ref a_m_kept, .ref a_m_notes, .ref a_m_noted, .int m_many, .int out.1, .int out.2.1, .int out.2.2.1, .int out.2.2.2, .ref a_m_held, .ref a_m_few])), (a_m_text, .inl (cI, 200, .inl m_text))] := by
  refine ent_v (cc := cX8_token) (maxL := 2) (by decide) rfl (Nat.le_of_ble_eq_true rfl) ?_
  intro p e s m below meth c A Q hx hb hml hown hts hE hA hP hD hS hret ls hl
  have hown : s.vm.findClass RX8 = some m.cls := hown
  have hl : lv_has ls 2 [(0, .ref a_m)] := hl
  have fL7 := hts (.fieldLink RX8 7 "RainShelvesModel" "text" "[I") (List.mem_of_getElem? (i := 5) rfl)
  have fL59 := hts (.fieldLink RX8 59 "RainShelvesModel" "at" "I") (List.mem_of_getElem? (i := 1) rfl)
  have fL66 := hts (.fieldLink RX8 66 "RainShelvesModel" "start" "I") (List.mem_of_getElem? (i := 2) rfl)
  have fL73 := hts (.fieldLink RX8 73 "RainShelvesModel" "sort" "I") (List.mem_of_getElem? (i := 3) rfl)
  have fL76 := hts (.fieldLink RX8 76 "RainShelvesModel" "value" "I") (List.mem_of_getElem? (i := 4) rfl)
  unfold f_X8_token at hf
  have L141 : ∀ (v1_141 : Int32) (m_sort_141 : Int32) (m_start_141 : Int32) (n141 : Nat) (m_at_141 : Int32) (m_value_141 : Int32), f_X8_token_L141 m_typed m_text v1_141 m_sort_141 m_start_141 n141 m_at_141 m_value_141 = some out → ∀ (H : Heap) (locs : List Loc) (ls : Array Slot), PD D A [(a_m, .inr (8, [.long m_trace, .ref a_m_text, .int m_typed, .ref a_m_told, .ref a_m_draft, .ref a_m_s, .ref a_m_past, .int m_known, .ref a_m_images, .ref a_m_kept, .ref a_m_notes, .ref a_m_noted, .int m_many, .int m_at_141, .int m_sort_141, .int m_start_141, .int m_value_141, .ref a_m_held, .ref a_m_few])), (a_m_text, .inl (cI, 200, .inl m_text))] H → va_S A s.heap H locs → lv_has ls 2 [(0, .ref a_m), (1, .int v1_141)] → W p l e rmX8_token s m ([.ref a_m] : List Value).toArray below meth c H locs 0 0 Q (F0 m 141 ls []) := by
    intro v1_141 m_sort_141 m_start_141 n141
    induction n141 with
    | zero => intro m_at_141 m_value_141 hf; cases hf
    | succ n141 ih141 =>
      intro m_at_141 m_value_141 hf H locs ls hPD hS hl
      obtain ⟨hP, hD⟩ := hPD
      have hf : f_X8_token_B141 m_typed m_text v1_141 m_sort_141 m_start_141 (f_X8_token_L141 m_typed m_text v1_141 m_sort_141 m_start_141 n141) m_at_141 m_value_141 = some out := hf
      unfold f_X8_token_B141 at hf
      have J197 : ∀ (s1_197 : Int32), f_X8_token_J197 m_at_141 (f_X8_token_L141 m_typed m_text v1_141 m_sort_141 m_start_141 n141) s1_197 = some out → ∀ (H : Heap) (locs : List Loc) (ls : Array Slot), PD D A [(a_m, .inr (8, [.long m_trace, .ref a_m_text, .int m_typed, .ref a_m_told, .ref a_m_draft, .ref a_m_s, .ref a_m_past, .int m_known, .ref a_m_images, .ref a_m_kept, .ref a_m_notes, .ref a_m_noted, .int m_many, .int m_at_141, .int m_sort_141, .int m_start_141, .int m_value_141, .ref a_m_held, .ref a_m_few])), (a_m_text, .inl (cI, 200, .inl m_text))] H → va_S A s.heap H locs → lv_has ls 2 [(0, .ref a_m), (1, .int v1_141)] → W p l e rmX8_token s m ([.ref a_m] : List Value).toArray below meth c H locs 0 0 Q (F0 m 197 ls [.int s1_197, .ref a_m]) := by
        intro s1_197 hf H locs ls hPD hS hl
        obtain ⟨hP, hD⟩ := hPD
        unfold f_X8_token_J197 at hf
        refine va_put (D := D) (ci := 8) (v := .int s1_197) (ty := .int) (C := RX8) (T := TX8) (N := 19) hx hb hts hiX8_token_8 tyX8 tyX8_ok nmX8 hown hE.1 hP hD hS 0 rfl rfl 16 (by decide) fL76 (fun _ h9 => h9) rfl (tyX8_ok 16 (by decide)) rfl rfl (Nat.le_of_ble_eq_true rfl) dX8_token_197 (fun H locs hP hD hS => ?_)
        have hPD : PD D A [(a_m, .inr (8, [.long m_trace, .ref a_m_text, .int m_typed, .ref a_m_told, .ref a_m_draft, .ref a_m_s, .ref a_m_past, .int m_known, .ref a_m_images, .ref a_m_kept, .ref a_m_notes, .ref a_m_noted, .int m_many, .int m_at_141, .int m_sort_141, .int m_start_141, .int s1_197, .ref a_m_held, .ref a_m_few])), (a_m_text, .inl (cI, 200, .inl m_text))] H := ⟨hP, hD⟩
        obtain ⟨hP, hD⟩ := hPD
        refine lv_aload_n hx hb dX8_token_200 rfl (lv_at hl 0 rfl) ?_
        refine lv_dup hx hb dX8_token_201 rfl ?_
        refine va_get (D := D) (ci := 8) (v := .int m_at_141) (C := RX8) (T := TX8) (N := 19) hx hb hts hiX8_token_8 hown hE.1 hP 0 rfl rfl 13 (by decide) fL59 (fun _ h9 => h9) rfl dX8_token_202 ?_
        refine lv_iconst (v := 1) hx hb dX8_token_205 (by decide) ?_
        refine lv_iadd hx hb dX8_token_206 ?_
        refine va_put (D := D) (ci := 8) (v := .int (m_at_141 + 1)) (ty := .int) (C := RX8) (T := TX8) (N := 19) hx hb hts hiX8_token_8 tyX8 tyX8_ok nmX8 hown hE.1 hP hD hS 0 rfl rfl 13 (by decide) fL59 (fun _ h9 => h9) rfl (tyX8_ok 13 (by decide)) rfl rfl (Nat.le_of_ble_eq_true rfl) dX8_token_207 (fun H locs hP hD hS => ?_)
        have hPD : PD D A [(a_m, .inr (8, [.long m_trace, .ref a_m_text, .int m_typed, .ref a_m_told, .ref a_m_draft, .ref a_m_s, .ref a_m_past, .int m_known, .ref a_m_images, .ref a_m_kept, .ref a_m_notes, .ref a_m_noted, .int m_many, .int (m_at_141 + 1), .int m_sort_141, .int m_start_141, .int s1_197, .ref a_m_held, .ref a_m_few])), (a_m_text, .inl (cI, 200, .inl m_text))] H := ⟨hP, hD⟩
        obtain ⟨hP, hD⟩ := hPD
        refine lv_goto (tgt := 141) hx hb dX8_token_210 (by decide) ?_
        exact ih141 (m_at_141 + 1) s1_197 hf _ _ _ ⟨hP, hD⟩ hS hl
      refine lv_aload_n hx hb dX8_token_141 rfl (lv_at hl 0 rfl) ?_
      refine lv_aload_n hx hb dX8_token_142 rfl (lv_at hl 0 rfl) ?_
      refine va_get (D := D) (ci := 8) (v := .int m_at_141) (C := RX8) (T := TX8) (N := 19) hx hb hts hiX8_token_8 hown hE.1 hP 0 rfl rfl 13 (by decide) fL59 (fun _ h9 => h9) rfl dX8_token_143 ?_
      obtain ⟨u1, hu1, hf⟩ := bd_some hf
      refine cl_iV (As := [.int m_at_141]) (rest := []) ⟨hx, hb, hml, hown, hts⟩ (c_X8_letterAt l D cI cZ cR a_m a_m_text a_m_told a_m_draft a_m_s a_m_past a_m_images a_m_kept a_m_notes a_m_noted a_m_held a_m_few m_trace m_typed m_known m_many m_at_141 m_sort_141 m_start_141 m_value_141 m_text m_at_141 u1 hu1) (cw_X8_token_X8_letterAt_62 hts) hE hP hD hS hA [0, 1] rfl rfl [a_m, a_m_text] rfl rfl 0 8 rfl rfl rfl hl.1 rfl (Nat.le_of_ble_eq_true rfl) dX8_token_146 ⟨Nat.zero_le _, Nat.zero_le _⟩ (fun H locs hP hD hS => ?_)
      have hPD : PD D A [(a_m, .inr (8, [.long m_trace, .ref a_m_text, .int m_typed, .ref a_m_told, .ref a_m_draft, .ref a_m_s, .ref a_m_past, .int m_known, .ref a_m_images, .ref a_m_kept, .ref a_m_notes, .ref a_m_noted, .int m_many, .int m_at_141, .int m_sort_141, .int m_start_141, .int m_value_141, .ref a_m_held, .ref a_m_few])), (a_m_text, .inl (cI, 200, .inl m_text))] H := ⟨hP, hD⟩
      obtain ⟨hP, hD⟩ := hPD
      obtain ⟨u2, hu2, hf⟩ := bd_some hf
      refine cl_iS (As := [.int u1]) (rest := []) ⟨hx, hb, hml, hown, hts⟩ (c_X8_isDigit l D cI cZ cR   u1 u2 hu2) (cw_X8_token_X8_isDigit_69 hts) hE hP hD hS hA rfl hl.1 rfl (Nat.le_of_ble_eq_true rfl) dX8_token_149 ⟨Nat.zero_le _, Nat.zero_le _⟩ (fun H locs hP hS => ?_)
      refine lv_if_eq (tgt := 213) hx hb dX8_token_152 (by decide) (fun hc1 => ?_) (fun hc1 => ?_)
      · have hf := if_t hf hc1
        have he := Option.some.inj hf
        subst he
        exact hret _ _ _ _ dX8_token_213 hP hD hS
      · have hf := if_f hf hc1
        refine lv_aload_n hx hb dX8_token_155 rfl (lv_at hl 0 rfl) ?_
        refine lv_iload_n hx hb dX8_token_156 rfl (lv_at hl 1 rfl) ?_
        refine lv_bipush (v := 48) hx hb dX8_token_157 (by decide) ?_
        refine lv_icmp_eq (tgt := 171) hx hb dX8_token_159 (by decide) (fun hc2 => ?_) (fun hc2 => ?_)
        · have hf := if_t hf hc2
          refine lv_sipush (v := 1000) hx hb dX8_token_171 (by decide) ?_
          refine lv_goto (tgt := 197) hx hb dX8_token_174 (by decide) ?_
          exact J197 1000 hf _ _ _ ⟨hP, hD⟩ hS hl
        · have hf := if_f hf hc2
          refine lv_aload_n hx hb dX8_token_162 rfl (lv_at hl 0 rfl) ?_
          refine va_get (D := D) (ci := 8) (v := .int m_value_141) (C := RX8) (T := TX8) (N := 19) hx hb hts hiX8_token_8 hown hE.1 hP 0 rfl rfl 16 (by decide) fL76 (fun _ h9 => h9) rfl dX8_token_163 ?_
          refine lv_bipush (v := 99) hx hb dX8_token_166 (by decide) ?_
          refine lv_icmp_le (tgt := 177) hx hb dX8_token_168 (by decide) (fun hc3 => ?_) (fun hc3 => ?_)
          · have hf := if_t hf hc3
            refine lv_bipush (v := 10) hx hb dX8_token_177 (by decide) ?_
            refine lv_aload_n hx hb dX8_token_179 rfl (lv_at hl 0 rfl) ?_
            refine va_get (D := D) (ci := 8) (v := .int m_value_141) (C := RX8) (T := TX8) (N := 19) hx hb hts hiX8_token_8 hown hE.1 hP 0 rfl rfl 16 (by decide) fL76 (fun _ h9 => h9) rfl dX8_token_180 ?_
            refine lv_imul hx hb dX8_token_183 ?_
            refine lv_aload_n hx hb dX8_token_184 rfl (lv_at hl 0 rfl) ?_
            refine va_get (D := D) (ci := 8) (v := .ref a_m_text) (C := RX8) (T := TX8) (N := 19) hx hb hts hiX8_token_8 hown hE.1 hP 0 rfl rfl 1 (by decide) fL7 (fun _ h9 => h9) rfl dX8_token_185 ?_
            refine lv_aload_n hx hb dX8_token_188 rfl (lv_at hl 0 rfl) ?_
            refine va_get (D := D) (ci := 8) (v := .int m_at_141) (C := RX8) (T := TX8) (N := 19) hx hb hts hiX8_token_8 hown hE.1 hP 0 rfl rfl 13 (by decide) fL59 (fun _ h9 => h9) rfl dX8_token_189 ?_
            obtain ⟨hc4, hf⟩ := ck_some hf
            refine va_iald hx hb hE.1 hP 1 0 rfl rfl (ix_in hc4) dX8_token_192 ?_
            refine lv_iadd hx hb dX8_token_193 ?_
            refine lv_bipush (v := 48) hx hb dX8_token_194 (by decide) ?_
            refine lv_isub hx hb dX8_token_196 ?_
            exact J197 (((10 * m_value_141) + (m_text m_at_141.toNatClampNeg)) - 48) hf _ _ _ ⟨hP, hD⟩ hS hl
          · have hf := if_f hf hc3
            refine lv_sipush (v := 1000) hx hb dX8_token_171 (by decide) ?_
            refine lv_goto (tgt := 197) hx hb dX8_token_174 (by decide) ?_
            exact J197 1000 hf _ _ _ ⟨hP, hD⟩ hS hl
  have J121 : ∀ (v1_121 : Int32) (m_at_121 : Int32) (m_sort_121 : Int32) (m_start_121 : Int32) (m_value_121 : Int32) (s1_121 : Int32) (s2_121 : Int32), f_X8_token_J121 m_typed m_text v1_121 m_sort_121 m_start_121 m_value_121 s1_121 s2_121 = some out → ∀ (H : Heap) (locs : List Loc) (ls : Array Slot), PD D A [(a_m, .inr (8, [.long m_trace, .ref a_m_text, .int m_typed, .ref a_m_told, .ref a_m_draft, .ref a_m_s, .ref a_m_past, .int m_known, .ref a_m_images, .ref a_m_kept, .ref a_m_notes, .ref a_m_noted, .int m_many, .int m_at_121, .int m_sort_121, .int m_start_121, .int m_value_121, .ref a_m_held, .ref a_m_few])), (a_m_text, .inl (cI, 200, .inl m_text))] H → va_S A s.heap H locs → lv_has ls 2 [(0, .ref a_m), (1, .int v1_121)] → W p l e rmX8_token s m ([.ref a_m] : List Value).toArray below meth c H locs 0 0 Q (F0 m 121 ls [.int s2_121, .int s1_121, .ref a_m]) := by
    intro v1_121 m_at_121 m_sort_121 m_start_121 m_value_121 s1_121 s2_121 hf H locs ls hPD hS hl
    obtain ⟨hP, hD⟩ := hPD
    unfold f_X8_token_J121 at hf
    refine lv_iadd hx hb dX8_token_121 ?_
    refine va_put (D := D) (ci := 8) (v := .int (s1_121 + s2_121)) (ty := .int) (C := RX8) (T := TX8) (N := 19) hx hb hts hiX8_token_8 tyX8 tyX8_ok nmX8 hown hE.1 hP hD hS 0 rfl rfl 13 (by decide) fL59 (fun _ h9 => h9) rfl (tyX8_ok 13 (by decide)) rfl rfl (Nat.le_of_ble_eq_true rfl) dX8_token_122 (fun H locs hP hD hS => ?_)
    have hPD : PD D A [(a_m, .inr (8, [.long m_trace, .ref a_m_text, .int m_typed, .ref a_m_told, .ref a_m_draft, .ref a_m_s, .ref a_m_past, .int m_known, .ref a_m_images, .ref a_m_kept, .ref a_m_notes, .ref a_m_noted, .int m_many, .int (s1_121 + s2_121), .int m_sort_121, .int m_start_121, .int m_value_121, .ref a_m_held, .ref a_m_few])), (a_m_text, .inl (cI, 200, .inl m_text))] H := ⟨hP, hD⟩
    obtain ⟨hP, hD⟩ := hPD
    refine lv_aload_n hx hb dX8_token_125 rfl (lv_at hl 0 rfl) ?_
    refine va_get (D := D) (ci := 8) (v := .int m_sort_121) (C := RX8) (T := TX8) (N := 19) hx hb hts hiX8_token_8 hown hE.1 hP 0 rfl rfl 14 (by decide) fL73 (fun _ h9 => h9) rfl dX8_token_126 ?_
    refine lv_iconst (v := 2) hx hb dX8_token_129 (by decide) ?_
    refine lv_icmp_ne (tgt := 213) hx hb dX8_token_130 (by decide) (fun hc5 => ?_) (fun hc5 => ?_)
    · have hf := if_f hf hc5
      have he := Option.some.inj hf
      subst he
      exact hret _ _ _ _ dX8_token_213 hP hD hS
    · have hf := if_t hf hc5
      refine lv_aload_n hx hb dX8_token_133 rfl (lv_at hl 0 rfl) ?_
      refine lv_iload_n hx hb dX8_token_134 rfl (lv_at hl 1 rfl) ?_
      refine lv_bipush (v := 48) hx hb dX8_token_135 (by decide) ?_
      refine lv_isub hx hb dX8_token_137 ?_
      refine va_put (D := D) (ci := 8) (v := .int (v1_121 - 48)) (ty := .int) (C := RX8) (T := TX8) (N := 19) hx hb hts hiX8_token_8 tyX8 tyX8_ok nmX8 hown hE.1 hP hD hS 0 rfl rfl 16 (by decide) fL76 (fun _ h9 => h9) rfl (tyX8_ok 16 (by decide)) rfl rfl (Nat.le_of_ble_eq_true rfl) dX8_token_138 (fun H locs hP hD hS => ?_)
      have hPD : PD D A [(a_m, .inr (8, [.long m_trace, .ref a_m_text, .int m_typed, .ref a_m_told, .ref a_m_draft, .ref a_m_s, .ref a_m_past, .int m_known, .ref a_m_images, .ref a_m_kept, .ref a_m_notes, .ref a_m_noted, .int m_many, .int (s1_121 + s2_121), .int m_sort_121, .int m_start_121, .int (v1_121 - 48), .ref a_m_held, .ref a_m_few])), (a_m_text, .inl (cI, 200, .inl m_text))] H := ⟨hP, hD⟩
      obtain ⟨hP, hD⟩ := hPD
      exact L141 v1_121 m_sort_121 m_start_121 FU (s1_121 + s2_121) (v1_121 - 48) hf _ _ _ ⟨hP, hD⟩ hS hl
  have J96 : ∀ (v1_96 : Int32) (m_at_96 : Int32) (m_start_96 : Int32) (s1_96 : Int32), f_X8_token_J96 m_typed m_text v1_96 m_at_96 m_start_96 s1_96 = some out → ∀ (H : Heap) (locs : List Loc) (ls : Array Slot), PD D A [(a_m, .inr (8, [.long m_trace, .ref a_m_text, .int m_typed, .ref a_m_told, .ref a_m_draft, .ref a_m_s, .ref a_m_past, .int m_known, .ref a_m_images, .ref a_m_kept, .ref a_m_notes, .ref a_m_noted, .int m_many, .int m_at_96, .int m_sort, .int m_start_96, .int m_value, .ref a_m_held, .ref a_m_few])), (a_m_text, .inl (cI, 200, .inl m_text))] H → va_S A s.heap H locs → lv_has ls 2 [(0, .ref a_m), (1, .int v1_96)] → W p l e rmX8_token s m ([.ref a_m] : List Value).toArray below meth c H locs 0 0 Q (F0 m 96 ls [.int s1_96, .ref a_m]) := by
    intro v1_96 m_at_96 m_start_96 s1_96 hf H locs ls hPD hS hl
    obtain ⟨hP, hD⟩ := hPD
    unfold f_X8_token_J96 at hf
    refine va_put (D := D) (ci := 8) (v := .int s1_96) (ty := .int) (C := RX8) (T := TX8) (N := 19) hx hb hts hiX8_token_8 tyX8 tyX8_ok nmX8 hown hE.1 hP hD hS 0 rfl rfl 14 (by decide) fL73 (fun _ h9 => h9) rfl (tyX8_ok 14 (by decide)) rfl rfl (Nat.le_of_ble_eq_true rfl) dX8_token_96 (fun H locs hP hD hS => ?_)
    have hPD : PD D A [(a_m, .inr (8, [.long m_trace, .ref a_m_text, .int m_typed, .ref a_m_told, .ref a_m_draft, .ref a_m_s, .ref a_m_past, .int m_known, .ref a_m_images, .ref a_m_kept, .ref a_m_notes, .ref a_m_noted, .int m_many, .int m_at_96, .int s1_96, .int m_start_96, .int m_value, .ref a_m_held, .ref a_m_few])), (a_m_text, .inl (cI, 200, .inl m_text))] H := ⟨hP, hD⟩
    obtain ⟨hP, hD⟩ := hPD
    refine lv_aload_n hx hb dX8_token_99 rfl (lv_at hl 0 rfl) ?_
    refine lv_iload_n hx hb dX8_token_100 rfl (lv_at hl 1 rfl) ?_
    refine va_put (D := D) (ci := 8) (v := .int v1_96) (ty := .int) (C := RX8) (T := TX8) (N := 19) hx hb hts hiX8_token_8 tyX8 tyX8_ok nmX8 hown hE.1 hP hD hS 0 rfl rfl 16 (by decide) fL76 (fun _ h9 => h9) rfl (tyX8_ok 16 (by decide)) rfl rfl (Nat.le_of_ble_eq_true rfl) dX8_token_101 (fun H locs hP hD hS => ?_)
    have hPD : PD D A [(a_m, .inr (8, [.long m_trace, .ref a_m_text, .int m_typed, .ref a_m_told, .ref a_m_draft, .ref a_m_s, .ref a_m_past, .int m_known, .ref a_m_images, .ref a_m_kept, .ref a_m_notes, .ref a_m_noted, .int m_many, .int m_at_96, .int s1_96, .int m_start_96, .int v1_96, .ref a_m_held, .ref a_m_few])), (a_m_text, .inl (cI, 200, .inl m_text))] H := ⟨hP, hD⟩
    obtain ⟨hP, hD⟩ := hPD
    refine lv_aload_n hx hb dX8_token_104 rfl (lv_at hl 0 rfl) ?_
    refine lv_dup hx hb dX8_token_105 rfl ?_
    refine va_get (D := D) (ci := 8) (v := .int m_at_96) (C := RX8) (T := TX8) (N := 19) hx hb hts hiX8_token_8 hown hE.1 hP 0 rfl rfl 13 (by decide) fL59 (fun _ h9 => h9) rfl dX8_token_106 ?_
    refine lv_aload_n hx hb dX8_token_109 rfl (lv_at hl 0 rfl) ?_
    refine va_get (D := D) (ci := 8) (v := .int s1_96) (C := RX8) (T := TX8) (N := 19) hx hb hts hiX8_token_8 hown hE.1 hP 0 rfl rfl 14 (by decide) fL73 (fun _ h9 => h9) rfl dX8_token_110 ?_
    refine lv_if_ne (tgt := 120) hx hb dX8_token_113 (by decide) (fun hc6 => ?_) (fun hc6 => ?_)
    · have hf := if_f hf hc6
      refine lv_iconst (v := 1) hx hb dX8_token_120 (by decide) ?_
      exact J121 v1_96 m_at_96 s1_96 m_start_96 v1_96 m_at_96 1 hf _ _ _ ⟨hP, hD⟩ hS hl
    · have hf := if_t hf hc6
      refine lv_iconst (v := 0) hx hb dX8_token_116 (by decide) ?_
      refine lv_goto (tgt := 121) hx hb dX8_token_117 (by decide) ?_
      exact J121 v1_96 m_at_96 s1_96 m_start_96 v1_96 m_at_96 0 hf _ _ _ ⟨hP, hD⟩ hS hl
  have J26 : ∀ (m_at_26 : Int32), f_X8_token_J26 m_typed m_text m_at_26 = some out → ∀ (H : Heap) (locs : List Loc) (ls : Array Slot), PD D A [(a_m, .inr (8, [.long m_trace, .ref a_m_text, .int m_typed, .ref a_m_told, .ref a_m_draft, .ref a_m_s, .ref a_m_past, .int m_known, .ref a_m_images, .ref a_m_kept, .ref a_m_notes, .ref a_m_noted, .int m_many, .int m_at_26, .int m_sort, .int m_start, .int m_value, .ref a_m_held, .ref a_m_few])), (a_m_text, .inl (cI, 200, .inl m_text))] H → va_S A s.heap H locs → lv_has ls 2 [(0, .ref a_m)] → W p l e rmX8_token s m ([.ref a_m] : List Value).toArray below meth c H locs 0 0 Q (F0 m 26 ls []) := by
    intro m_at_26 hf H locs ls hPD hS hl
    obtain ⟨hP, hD⟩ := hPD
    unfold f_X8_token_J26 at hf
    refine lv_aload_n hx hb dX8_token_26 rfl (lv_at hl 0 rfl) ?_
    refine lv_aload_n hx hb dX8_token_27 rfl (lv_at hl 0 rfl) ?_
    refine va_get (D := D) (ci := 8) (v := .int m_at_26) (C := RX8) (T := TX8) (N := 19) hx hb hts hiX8_token_8 hown hE.1 hP 0 rfl rfl 13 (by decide) fL59 (fun _ h9 => h9) rfl dX8_token_28 ?_
    refine va_put (D := D) (ci := 8) (v := .int m_at_26) (ty := .int) (C := RX8) (T := TX8) (N := 19) hx hb hts hiX8_token_8 tyX8 tyX8_ok nmX8 hown hE.1 hP hD hS 0 rfl rfl 15 (by decide) fL66 (fun _ h9 => h9) rfl (tyX8_ok 15 (by decide)) rfl rfl (Nat.le_of_ble_eq_true rfl) dX8_token_31 (fun H locs hP hD hS => ?_)
    have hPD : PD D A [(a_m, .inr (8, [.long m_trace, .ref a_m_text, .int m_typed, .ref a_m_told, .ref a_m_draft, .ref a_m_s, .ref a_m_past, .int m_known, .ref a_m_images, .ref a_m_kept, .ref a_m_notes, .ref a_m_noted, .int m_many, .int m_at_26, .int m_sort, .int m_at_26, .int m_value, .ref a_m_held, .ref a_m_few])), (a_m_text, .inl (cI, 200, .inl m_text))] H := ⟨hP, hD⟩
    obtain ⟨hP, hD⟩ := hPD
    refine lv_aload_n hx hb dX8_token_34 rfl (lv_at hl 0 rfl) ?_
    refine lv_aload_n hx hb dX8_token_35 rfl (lv_at hl 0 rfl) ?_
    refine va_get (D := D) (ci := 8) (v := .int m_at_26) (C := RX8) (T := TX8) (N := 19) hx hb hts hiX8_token_8 hown hE.1 hP 0 rfl rfl 13 (by decide) fL59 (fun _ h9 => h9) rfl dX8_token_36 ?_
    obtain ⟨u3, hu3, hf⟩ := bd_some hf
    refine cl_iV (As := [.int m_at_26]) (rest := []) ⟨hx, hb, hml, hown, hts⟩ (c_X8_letterAt l D cI cZ cR a_m a_m_text a_m_told a_m_draft a_m_s a_m_past a_m_images a_m_kept a_m_notes a_m_noted a_m_held a_m_few m_trace m_typed m_known m_many m_at_26 m_sort m_at_26 m_value m_text m_at_26 u3 hu3) (cw_X8_token_X8_letterAt_62 hts) hE hP hD hS hA [0, 1] rfl rfl [a_m, a_m_text] rfl rfl 0 8 rfl rfl rfl hl.1 rfl (Nat.le_of_ble_eq_true rfl) dX8_token_39 ⟨Nat.zero_le _, Nat.zero_le _⟩ (fun H locs hP hD hS => ?_)
    have hPD : PD D A [(a_m, .inr (8, [.long m_trace, .ref a_m_text, .int m_typed, .ref a_m_told, .ref a_m_draft, .ref a_m_s, .ref a_m_past, .int m_known, .ref a_m_images, .ref a_m_kept, .ref a_m_notes, .ref a_m_noted, .int m_many, .int m_at_26, .int m_sort, .int m_at_26, .int m_value, .ref a_m_held, .ref a_m_few])), (a_m_text, .inl (cI, 200, .inl m_text))] H := ⟨hP, hD⟩
    obtain ⟨hP, hD⟩ := hPD
    refine lv_istore_n (lv' := [(1, .int u3), (0, .ref a_m)]) hx hb dX8_token_42 rfl hl (by decide) rfl (fun ls hl => ?_)
    refine lv_aload_n hx hb dX8_token_43 rfl (lv_at hl 1 rfl) ?_
    refine lv_iload_n hx hb dX8_token_44 rfl (lv_at hl 0 rfl) ?_
    refine lv_if_ge (tgt := 52) hx hb dX8_token_45 (by decide) (fun hc7 => ?_) (fun hc7 => ?_)
    · have hf := if_t hf hc7
      refine lv_iload_n hx hb dX8_token_52 rfl (lv_at hl 0 rfl) ?_
      refine lv_bipush (v := 112) hx hb dX8_token_53 (by decide) ?_
      refine lv_icmp_eq (tgt := 70) hx hb dX8_token_55 (by decide) (fun hc8 => ?_) (fun hc8 => ?_)
      · have hf := if_t hf hc8
        refine lv_iconst (v := 1) hx hb dX8_token_70 (by decide) ?_
        refine lv_goto (tgt := 96) hx hb dX8_token_71 (by decide) ?_
        exact J96 u3 m_at_26 m_at_26 1 hf _ _ _ ⟨hP, hD⟩ hS (lv_sub hl [1, 0] rfl)
      · have hf := if_f hf hc8
        refine lv_iload_n hx hb dX8_token_58 rfl (lv_at hl 0 rfl) ?_
        refine lv_bipush (v := 108) hx hb dX8_token_59 (by decide) ?_
        refine lv_icmp_eq (tgt := 70) hx hb dX8_token_61 (by decide) (fun hc9 => ?_) (fun hc9 => ?_)
        · have hf := if_t hf hc9
          refine lv_iconst (v := 1) hx hb dX8_token_70 (by decide) ?_
          refine lv_goto (tgt := 96) hx hb dX8_token_71 (by decide) ?_
          exact J96 u3 m_at_26 m_at_26 1 hf _ _ _ ⟨hP, hD⟩ hS (lv_sub hl [1, 0] rfl)
        · have hf := if_f hf hc9
          refine lv_iload_n hx hb dX8_token_64 rfl (lv_at hl 0 rfl) ?_
          refine lv_bipush (v := 115) hx hb dX8_token_65 (by decide) ?_
          refine lv_icmp_ne (tgt := 74) hx hb dX8_token_67 (by decide) (fun hc10 => ?_) (fun hc10 => ?_)
          · have hf := if_f hf hc10
            refine lv_iload_n hx hb dX8_token_74 rfl (lv_at hl 0 rfl) ?_
            obtain ⟨u4, hu4, hf⟩ := bd_some hf
            refine cl_iS (As := [.int u3]) (rest := [.ref a_m]) ⟨hx, hb, hml, hown, hts⟩ (c_X8_isDigit l D cI cZ cR   u3 u4 hu4) (cw_X8_token_X8_isDigit_69 hts) hE hP hD hS hA rfl hl.1 rfl (Nat.le_of_ble_eq_true rfl) dX8_token_75 ⟨Nat.zero_le _, Nat.zero_le _⟩ (fun H locs hP hS => ?_)
            refine lv_if_eq (tgt := 85) hx hb dX8_token_78 (by decide) (fun hc11 => ?_) (fun hc11 => ?_)
            · have hf := if_t hf hc11
              refine lv_iload_n hx hb dX8_token_85 rfl (lv_at hl 0 rfl) ?_
              refine lv_bipush (v := 59) hx hb dX8_token_86 (by decide) ?_
              refine lv_icmp_ne (tgt := 95) hx hb dX8_token_88 (by decide) (fun hc12 => ?_) (fun hc12 => ?_)
              · have hf := if_f hf hc12
                refine lv_iconst (v := 4) hx hb dX8_token_95 (by decide) ?_
                exact J96 u3 m_at_26 m_at_26 4 hf _ _ _ ⟨hP, hD⟩ hS (lv_sub hl [1, 0] rfl)
              · have hf := if_t hf hc12
                refine lv_iconst (v := 3) hx hb dX8_token_91 (by decide) ?_
                refine lv_goto (tgt := 96) hx hb dX8_token_92 (by decide) ?_
                exact J96 u3 m_at_26 m_at_26 3 hf _ _ _ ⟨hP, hD⟩ hS (lv_sub hl [1, 0] rfl)
            · have hf := if_f hf hc11
              refine lv_iconst (v := 2) hx hb dX8_token_81 (by decide) ?_
              refine lv_goto (tgt := 96) hx hb dX8_token_82 (by decide) ?_
              exact J96 u3 m_at_26 m_at_26 2 hf _ _ _ ⟨hP, hD⟩ hS (lv_sub hl [1, 0] rfl)
          · have hf := if_t hf hc10
            refine lv_iconst (v := 1) hx hb dX8_token_70 (by decide) ?_
            refine lv_goto (tgt := 96) hx hb dX8_token_71 (by decide) ?_
            exact J96 u3 m_at_26 m_at_26 1 hf _ _ _ ⟨hP, hD⟩ hS (lv_sub hl [1, 0] rfl)
    · have hf := if_f hf hc7
      refine lv_iconst (v := 0) hx hb dX8_token_48 (by decide) ?_
      refine lv_goto (tgt := 96) hx hb dX8_token_49 (by decide) ?_
      exact J96 u3 m_at_26 m_at_26 0 hf _ _ _ ⟨hP, hD⟩ hS (lv_sub hl [1, 0] rfl)
  have L0 : ∀ (n0 : Nat) (m_at_0 : Int32), f_X8_token_L0 m_typed m_text n0 m_at_0 = some out → ∀ (H : Heap) (locs : List Loc) (ls : Array Slot), PD D A [(a_m, .inr (8, [.long m_trace, .ref a_m_text, .int m_typed, .ref a_m_told, .ref a_m_draft, .ref a_m_s, .ref a_m_past, .int m_known, .ref a_m_images, .ref a_m_kept, .ref a_m_notes, .ref a_m_noted, .int m_many, .int m_at_0, .int m_sort, .int m_start, .int m_value, .ref a_m_held, .ref a_m_few])), (a_m_text, .inl (cI, 200, .inl m_text))] H → va_S A s.heap H locs → lv_has ls 2 [(0, .ref a_m)] → W p l e rmX8_token s m ([.ref a_m] : List Value).toArray below meth c H locs 0 0 Q (F0 m 0 ls []) := by
    intro  n0
    induction n0 with
    | zero => intro m_at_0 hf; cases hf
    | succ n0 ih0 =>
      intro m_at_0 hf H locs ls hPD hS hl
      obtain ⟨hP, hD⟩ := hPD
      have hf : f_X8_token_B0 m_typed m_text (f_X8_token_L0 m_typed m_text n0) m_at_0 = some out := hf
      unfold f_X8_token_B0 at hf
      refine lv_aload_n hx hb dX8_token_0 rfl (lv_at hl 0 rfl) ?_
      refine lv_aload_n hx hb dX8_token_1 rfl (lv_at hl 0 rfl) ?_
      refine va_get (D := D) (ci := 8) (v := .int m_at_0) (C := RX8) (T := TX8) (N := 19) hx hb hts hiX8_token_8 hown hE.1 hP 0 rfl rfl 13 (by decide) fL59 (fun _ h9 => h9) rfl dX8_token_2 ?_
      obtain ⟨u5, hu5, hf⟩ := bd_some hf
      refine cl_iV (As := [.int m_at_0]) (rest := []) ⟨hx, hb, hml, hown, hts⟩ (c_X8_letterAt l D cI cZ cR a_m a_m_text a_m_told a_m_draft a_m_s a_m_past a_m_images a_m_kept a_m_notes a_m_noted a_m_held a_m_few m_trace m_typed m_known m_many m_at_0 m_sort m_start m_value m_text m_at_0 u5 hu5) (cw_X8_token_X8_letterAt_62 hts) hE hP hD hS hA [0, 1] rfl rfl [a_m, a_m_text] rfl rfl 0 8 rfl rfl rfl hl.1 rfl (Nat.le_of_ble_eq_true rfl) dX8_token_5 ⟨Nat.zero_le _, Nat.zero_le _⟩ (fun H locs hP hD hS => ?_)
      have hPD : PD D A [(a_m, .inr (8, [.long m_trace, .ref a_m_text, .int m_typed, .ref a_m_told, .ref a_m_draft, .ref a_m_s, .ref a_m_past, .int m_known, .ref a_m_images, .ref a_m_kept, .ref a_m_notes, .ref a_m_noted, .int m_many, .int m_at_0, .int m_sort, .int m_start, .int m_value, .ref a_m_held, .ref a_m_few])), (a_m_text, .inl (cI, 200, .inl m_text))] H := ⟨hP, hD⟩
      obtain ⟨hP, hD⟩ := hPD
      refine lv_bipush (v := 32) hx hb dX8_token_8 (by decide) ?_
      refine lv_icmp_ne (tgt := 26) hx hb dX8_token_10 (by decide) (fun hc13 => ?_) (fun hc13 => ?_)
      · have hf := if_f hf hc13
        exact J26 m_at_0 hf _ _ _ ⟨hP, hD⟩ hS hl
      · have hf := if_t hf hc13
        refine lv_aload_n hx hb dX8_token_13 rfl (lv_at hl 0 rfl) ?_
        refine lv_dup hx hb dX8_token_14 rfl ?_
        refine va_get (D := D) (ci := 8) (v := .int m_at_0) (C := RX8) (T := TX8) (N := 19) hx hb hts hiX8_token_8 hown hE.1 hP 0 rfl rfl 13 (by decide) fL59 (fun _ h9 => h9) rfl dX8_token_15 ?_
        refine lv_iconst (v := 1) hx hb dX8_token_18 (by decide) ?_
        refine lv_iadd hx hb dX8_token_19 ?_
        refine va_put (D := D) (ci := 8) (v := .int (m_at_0 + 1)) (ty := .int) (C := RX8) (T := TX8) (N := 19) hx hb hts hiX8_token_8 tyX8 tyX8_ok nmX8 hown hE.1 hP hD hS 0 rfl rfl 13 (by decide) fL59 (fun _ h9 => h9) rfl (tyX8_ok 13 (by decide)) rfl rfl (Nat.le_of_ble_eq_true rfl) dX8_token_20 (fun H locs hP hD hS => ?_)
        have hPD : PD D A [(a_m, .inr (8, [.long m_trace, .ref a_m_text, .int m_typed, .ref a_m_told, .ref a_m_draft, .ref a_m_s, .ref a_m_past, .int m_known, .ref a_m_images, .ref a_m_kept, .ref a_m_notes, .ref a_m_noted, .int m_many, .int (m_at_0 + 1), .int m_sort, .int m_start, .int m_value, .ref a_m_held, .ref a_m_few])), (a_m_text, .inl (cI, 200, .inl m_text))] H := ⟨hP, hD⟩
        obtain ⟨hP, hD⟩ := hPD
        refine lv_goto (tgt := 0) hx hb dX8_token_23 (by decide) ?_
        exact ih0 (m_at_0 + 1) hf _ _ _ ⟨hP, hD⟩ hS hl
  refine lv_aload_n hx hb dX8_token_0 rfl (lv_at hl 0 rfl) ?_
  refine lv_aload_n hx hb dX8_token_1 rfl (lv_at hl 0 rfl) ?_
  refine va_get (D := D) (ci := 8) (v := .int m_at) (C := RX8) (T := TX8) (N := 19) hx hb hts hiX8_token_8 hown hE.1 hP 0 rfl rfl 13 (by decide) fL59 (fun _ h9 => h9) rfl dX8_token_2 ?_
  obtain ⟨u6, hu6, hf⟩ := bd_some hf
  refine cl_iV (As := [.int m_at]) (rest := []) ⟨hx, hb, hml, hown, hts⟩ (c_X8_letterAt l D cI cZ cR a_m a_m_text a_m_told a_m_draft a_m_s a_m_past a_m_images a_m_kept a_m_notes a_m_noted a_m_held a_m_few m_trace m_typed m_known m_many m_at m_sort m_start m_value m_text m_at u6 hu6) (cw_X8_token_X8_letterAt_62 hts) hE hP hD hS hA [0, 1] rfl rfl [a_m, a_m_text] rfl rfl 0 8 rfl rfl rfl hl.1 rfl (Nat.le_of_ble_eq_true rfl) dX8_token_5 ⟨Nat.zero_le _, Nat.zero_le _⟩ (fun H locs hP hD hS => ?_)
  have hPD : PD D A [(a_m, .inr (8, [.long m_trace, .ref a_m_text, .int m_typed, .ref a_m_told, .ref a_m_draft, .ref a_m_s, .ref a_m_past, .int m_known, .ref a_m_images, .ref a_m_kept, .ref a_m_notes, .ref a_m_noted, .int m_many, .int m_at, .int m_sort, .int m_start, .int m_value, .ref a_m_held, .ref a_m_few])), (a_m_text, .inl (cI, 200, .inl m_text))] H := ⟨hP, hD⟩
  obtain ⟨hP, hD⟩ := hPD
  refine lv_bipush (v := 32) hx hb dX8_token_8 (by decide) ?_
  refine lv_icmp_ne (tgt := 26) hx hb dX8_token_10 (by decide) (fun hc14 => ?_) (fun hc14 => ?_)
  · have hf := if_f hf hc14
    exact J26 m_at hf _ _ _ ⟨hP, hD⟩ hS hl
  · have hf := if_t hf hc14
    refine lv_aload_n hx hb dX8_token_13 rfl (lv_at hl 0 rfl) ?_
    refine lv_dup hx hb dX8_token_14 rfl ?_
    refine va_get (D := D) (ci := 8) (v := .int m_at) (C := RX8) (T := TX8) (N := 19) hx hb hts hiX8_token_8 hown hE.1 hP 0 rfl rfl 13 (by decide) fL59 (fun _ h9 => h9) rfl dX8_token_15 ?_
    refine lv_iconst (v := 1) hx hb dX8_token_18 (by decide) ?_
    refine lv_iadd hx hb dX8_token_19 ?_
    refine va_put (D := D) (ci := 8) (v := .int (m_at + 1)) (ty := .int) (C := RX8) (T := TX8) (N := 19) hx hb hts hiX8_token_8 tyX8 tyX8_ok nmX8 hown hE.1 hP hD hS 0 rfl rfl 13 (by decide) fL59 (fun _ h9 => h9) rfl (tyX8_ok 13 (by decide)) rfl rfl (Nat.le_of_ble_eq_true rfl) dX8_token_20 (fun H locs hP hD hS => ?_)
    have hPD : PD D A [(a_m, .inr (8, [.long m_trace, .ref a_m_text, .int m_typed, .ref a_m_told, .ref a_m_draft, .ref a_m_s, .ref a_m_past, .int m_known, .ref a_m_images, .ref a_m_kept, .ref a_m_notes, .ref a_m_noted, .int m_many, .int (m_at + 1), .int m_sort, .int m_start, .int m_value, .ref a_m_held, .ref a_m_few])), (a_m_text, .inl (cI, 200, .inl m_text))] H := ⟨hP, hD⟩
    obtain ⟨hP, hD⟩ := hPD
    refine lv_goto (tgt := 0) hx hb dX8_token_23 (by decide) ?_
    exact L0  FU (m_at + 1) hf _ _ _ ⟨hP, hD⟩ hS hl
abbrev rmX8_number : Room := { frames := 3, cells := 0, slots := 0, locals := 63 }
theorem hiX8_number_8 : ∀ w ∈ wsX80, w ∈ wsX8_number := fun w h => (goodIn_r (big := wsX8_number) wsX80 [23, 24, 25, 26, 27, 28, 29, 30, 31, 32, 33, 34, 35, 36, 37, 38, 39, 40, 41] rfl (by decide +kernel) w h).1
theorem cw_X8_number_X8_token_79 {s : State} {args : Array Value} (hts : ∀ x ∈ wsX8_number, x.before args s = true) : CallW rmX8_number s args RX8 RX8 79 yX8_token cX8_token 2 none wsX8_token rmX8_token 0 0 0 := cwV 0 hts gX8_number_X8_token rfl rfl rfl (by decide +kernel) ⟨Nat.le_of_ble_eq_true rfl, Nat.le_of_ble_eq_true rfl⟩
theorem cw_X8_number_X8_in_51 {s : State} {args : Array Value} (hts : ∀ x ∈ wsX8_number, x.before args s = true) : CallB rmX8_number s args RX8 51 yX8_in cX8_in 3 (some .boolean) wsX8_in rmX8_in 0 0 3 ∧ (Cond.static yX8_in).before args s = true := va_cwS 3 hts gX8_number_X8_in rfl rfl rfl (by decide +kernel) ⟨Nat.le_of_ble_eq_true rfl, Nat.le_of_ble_eq_true rfl⟩
set_option maxRecDepth 100000 in
set_option maxHeartbeats 4000000 in
theorem c_X8_number (l : Launch) (D : va_G) (cI cZ cR : ClassId) (a_m : Nat) (a_m_text : Nat) (a_m_draft : Nat) (a_m_told : Nat) (a_m_s : Nat) (a_m_past : Nat) (a_m_images : Nat) (a_m_kept : Nat) (a_m_notes : Nat) (a_m_noted : Nat) (a_m_held : Nat) (a_m_few : Nat) (m_trace : Int64) (m_typed : Int32) (m_known : Int32) (m_many : Int32) (m_at : Int32) (m_sort : Int32) (m_start : Int32) (m_value : Int32) (m_text : Nat → Int32) (m_draft : Nat → Int32) (v1 : Int32) (v2 : Int32) (v3 : Int32) (out : Int32 × Int32 × Int32 × Int32 × Int32 × (Nat → Int32)) (hf : f_X8_number m_typed m_at m_text m_draft v1 v2 v3 = some out) : Ci l yX8_number wsX8_number rmX8_number D cI cZ cR [.ref a_m, .int v1, .int v2, .int v3] [(a_m, .inr (8, [.long m_trace, .ref a_m_text, .int m_typed, .ref a_m_told, .ref a_m_draft, .ref a_m_s, .ref a_m_past, .int m_known, .ref a_m_images, .ref a_m_kept, .ref a_m_notes, .ref a_m_noted, .int m_many, .int m_at, .int m_sort, .int m_start, .int m_value, .ref a_m_held, .ref a_m_few])), (a_m_text, .inl (cI, 200, .inl m_text)), (a_m_draft, .inl (cI, 33, .inl m_draft))] out.1 [(a_m, .inr (8, [.long m_trace, .ref a_m_text, .int m_typed, .ref a_m_told, .ref a_m_draft, .ref a_m_s, .ref a_m_past, .int m_known, .ref a_m_images, .ref a_m_kept, .ref a_m_notes, .ref a_m_noted, .int m_many, .int out.2.1, .int out.2.2.1, .int out.2.2.2.1, .int out.2.2.2.2.1, .ref a_m_held, .ref a_m_few])), (a_m_text, .inl (cI, 200, .inl m_text)), (a_m_draft, .inl (cI, 33, .inl out.2.2.2.2.2))] := by
  refine ent_i (cc := cX8_number) (maxL := 4) .boolean (by decide) rfl (Nat.le_of_ble_eq_true rfl) ?_
  intro p e s m below meth c A Q hx hb hml hown hts hE hA hP hD hS hret ls hl
  have hown : s.vm.findClass RX8 = some m.cls := hown
  have hl : lv_has ls 4 [(0, .ref a_m), (1, .int v1), (2, .int v2), (3, .int v3)] := hl
  have fL16 := hts (.fieldLink RX8 16 "RainShelvesModel" "draft" "[I") (List.mem_of_getElem? (i := 1) rfl)
  have fL73 := hts (.fieldLink RX8 73 "RainShelvesModel" "sort" "I") (List.mem_of_getElem? (i := 3) rfl)
  have fL76 := hts (.fieldLink RX8 76 "RainShelvesModel" "value" "I") (List.mem_of_getElem? (i := 2) rfl)
  unfold f_X8_number at hf
  refine lv_aload_n hx hb dX8_number_0 rfl (lv_at hl 0 rfl) ?_
  obtain ⟨u1, hu1, hf⟩ := bd_some hf
  refine cl_vV (As := []) (rest := []) ⟨hx, hb, hml, hown, hts⟩ (c_X8_token l D cI cZ cR a_m a_m_text a_m_told a_m_draft a_m_s a_m_past a_m_images a_m_kept a_m_notes a_m_noted a_m_held a_m_few m_trace m_typed m_known m_many m_at m_sort m_start m_value m_text  u1 hu1) (cw_X8_number_X8_token_79 hts) hE hP hD hS hA [0, 1] rfl rfl [a_m, a_m_text] rfl rfl 0 8 rfl rfl rfl hl.1 rfl (Nat.le_of_ble_eq_true rfl) dX8_number_1 ⟨Nat.zero_le _, Nat.zero_le _⟩ (fun H locs hP hD hS => ?_)
  have hPD : PD D A [(a_m, .inr (8, [.long m_trace, .ref a_m_text, .int m_typed, .ref a_m_told, .ref a_m_draft, .ref a_m_s, .ref a_m_past, .int m_known, .ref a_m_images, .ref a_m_kept, .ref a_m_notes, .ref a_m_noted, .int m_many, .int u1.1, .int u1.2.1, .int u1.2.2.1, .int u1.2.2.2, .ref a_m_held, .ref a_m_few])), (a_m_text, .inl (cI, 200, .inl m_text)), (a_m_draft, .inl (cI, 33, .inl m_draft))] H := ⟨hP, hD⟩
  obtain ⟨hP, hD⟩ := hPD
  refine lv_aload_n hx hb dX8_number_4 rfl (lv_at hl 0 rfl) ?_
  refine va_get (D := D) (ci := 8) (v := .ref a_m_draft) (C := RX8) (T := TX8) (N := 19) hx hb hts hiX8_number_8 hown hE.1 hP 0 rfl rfl 4 (by decide) fL16 (fun _ h9 => h9) rfl dX8_number_5 ?_
  refine lv_iload_n hx hb dX8_number_8 rfl (lv_at hl 1 rfl) ?_
  refine lv_aload_n hx hb dX8_number_9 rfl (lv_at hl 0 rfl) ?_
  refine va_get (D := D) (ci := 8) (v := .int u1.2.2.2) (C := RX8) (T := TX8) (N := 19) hx hb hts hiX8_number_8 hown hE.1 hP 0 rfl rfl 16 (by decide) fL76 (fun _ h9 => h9) rfl dX8_number_10 ?_
  obtain ⟨hc1, hf⟩ := ck_some hf
  refine va_iast hx hb hE.1 hP hD hS 2 0 rfl rfl (ix_in hc1) dX8_number_13 (fun H locs hP hD hS => ?_)
  have hPD : PD D A [(a_m, .inr (8, [.long m_trace, .ref a_m_text, .int m_typed, .ref a_m_told, .ref a_m_draft, .ref a_m_s, .ref a_m_past, .int m_known, .ref a_m_images, .ref a_m_kept, .ref a_m_notes, .ref a_m_noted, .int m_many, .int u1.1, .int u1.2.1, .int u1.2.2.1, .int u1.2.2.2, .ref a_m_held, .ref a_m_few])), (a_m_text, .inl (cI, 200, .inl m_text)), (a_m_draft, .inl (cI, 33, .inl (upd m_draft v1.toNatClampNeg u1.2.2.2)))] H := ⟨hP, hD⟩
  obtain ⟨hP, hD⟩ := hPD
  refine lv_aload_n hx hb dX8_number_14 rfl (lv_at hl 0 rfl) ?_
  refine va_get (D := D) (ci := 8) (v := .int u1.2.1) (C := RX8) (T := TX8) (N := 19) hx hb hts hiX8_number_8 hown hE.1 hP 0 rfl rfl 14 (by decide) fL73 (fun _ h9 => h9) rfl dX8_number_15 ?_
  refine lv_iconst (v := 2) hx hb dX8_number_18 (by decide) ?_
  refine lv_icmp_ne (tgt := 38) hx hb dX8_number_19 (by decide) (fun hc2 => ?_) (fun hc2 => ?_)
  · have hf := if_f hf hc2
    refine lv_iconst (v := 0) hx hb dX8_number_38 (by decide) ?_
    have he := Option.some.inj hf
    subst he
    exact hret _ _ _ _ dX8_number_39 bn0 hP hD hS
  · have hf := if_t hf hc2
    refine lv_aload_n hx hb dX8_number_22 rfl (lv_at hl 0 rfl) ?_
    refine va_get (D := D) (ci := 8) (v := .int u1.2.2.2) (C := RX8) (T := TX8) (N := 19) hx hb hts hiX8_number_8 hown hE.1 hP 0 rfl rfl 16 (by decide) fL76 (fun _ h9 => h9) rfl dX8_number_23 ?_
    refine lv_iload_n hx hb dX8_number_26 rfl (lv_at hl 2 rfl) ?_
    refine lv_iload_n hx hb dX8_number_27 rfl (lv_at hl 3 rfl) ?_
    obtain ⟨u2, hu2, hf⟩ := bd_some hf
    refine cl_iS (As := [.int u1.2.2.2, .int v2, .int v3]) (rest := []) ⟨hx, hb, hml, hown, hts⟩ (c_X8_in l D cI cZ cR   u1.2.2.2 v2 v3 u2 hu2) (cw_X8_number_X8_in_51 hts) hE hP hD hS hA rfl hl.1 rfl (Nat.le_of_ble_eq_true rfl) dX8_number_28 ⟨Nat.zero_le _, Nat.zero_le _⟩ (fun H locs hP hS => ?_)
    refine lv_if_eq (tgt := 38) hx hb dX8_number_31 (by decide) (fun hc3 => ?_) (fun hc3 => ?_)
    · have hf := if_t hf hc3
      refine lv_iconst (v := 0) hx hb dX8_number_38 (by decide) ?_
      have he := Option.some.inj hf
      subst he
      exact hret _ _ _ _ dX8_number_39 bn0 hP hD hS
    · have hf := if_f hf hc3
      refine lv_iconst (v := 1) hx hb dX8_number_34 (by decide) ?_
      refine lv_goto (tgt := 39) hx hb dX8_number_35 (by decide) ?_
      have he := Option.some.inj hf
      subst he
      exact hret _ _ _ _ dX8_number_39 bn1 hP hD hS
abbrev rmX8_once : Room := { frames := 4, cells := 0, slots := 0, locals := 86 }
theorem hiX8_once_8 : ∀ w ∈ wsX80, w ∈ wsX8_once := fun w h => (goodIn_r (big := wsX8_once) wsX80 [27, 28, 29, 30, 31, 32, 33, 34, 35, 36, 37, 38, 39, 40, 41, 42, 43, 44, 45] rfl (by decide +kernel) w h).1
theorem cw_X8_once_X8_number_82 {s : State} {args : Array Value} (hts : ∀ x ∈ wsX8_once, x.before args s = true) : CallW rmX8_once s args RX8 RX8 82 yX8_number cX8_number 4 (some .boolean) wsX8_number rmX8_number 0 0 3 := cwV 3 hts gX8_once_X8_number rfl rfl rfl (by decide +kernel) ⟨Nat.le_of_ble_eq_true rfl, Nat.le_of_ble_eq_true rfl⟩
set_option maxRecDepth 100000 in
set_option maxHeartbeats 4000000 in
theorem c_X8_once (l : Launch) (D : va_G) (cI cZ cR : ClassId) (a_m : Nat) (a_m_draft : Nat) (a_m_text : Nat) (a_m_told : Nat) (a_m_s : Nat) (a_m_past : Nat) (a_m_images : Nat) (a_m_kept : Nat) (a_m_notes : Nat) (a_m_noted : Nat) (a_m_held : Nat) (a_m_few : Nat) (m_trace : Int64) (m_typed : Int32) (m_known : Int32) (m_many : Int32) (m_at : Int32) (m_sort : Int32) (m_start : Int32) (m_value : Int32) (m_draft : Nat → Int32) (m_text : Nat → Int32) (v1 : Int32) (v2 : Int32) (v3 : Int32) (v4 : Int32) (out : Int32 × Int32 × Int32 × Int32 × Int32 × (Nat → Int32)) (hf : f_X8_once m_typed m_at m_sort m_start m_value m_draft m_text v1 v2 v3 v4 = some out) : Ci l yX8_once wsX8_once rmX8_once D cI cZ cR [.ref a_m, .int v1, .int v2, .int v3, .int v4] [(a_m, .inr (8, [.long m_trace, .ref a_m_text, .int m_typed, .ref a_m_told, .ref a_m_draft, .ref a_m_s, .ref a_m_past, .int m_known, .ref a_m_images, .ref a_m_kept, .ref a_m_notes, .ref a_m_noted, .int m_many, .int m_at, .int m_sort, .int m_start, .int m_value, .ref a_m_held, .ref a_m_few])), (a_m_draft, .inl (cI, 33, .inl m_draft)), (a_m_text, .inl (cI, 200, .inl m_text))] out.1 [(a_m, .inr (8, [.long m_trace, .ref a_m_text, .int m_typed, .ref a_m_told, .ref a_m_draft, .ref a_m_s, .ref a_m_past, .int m_known, .ref a_m_images, .ref a_m_kept, .ref a_m_notes, .ref a_m_noted, .int m_many, .int out.2.1, .int out.2.2.1, .int out.2.2.2.1, .int out.2.2.2.2.1, .ref a_m_held, .ref a_m_few])), (a_m_draft, .inl (cI, 33, .inl out.2.2.2.2.2)), (a_m_text, .inl (cI, 200, .inl m_text))] := by
  refine ent_i (cc := cX8_once) (maxL := 5) .boolean (by decide) rfl (Nat.le_of_ble_eq_true rfl) ?_
  intro p e s m below meth c A Q hx hb hml hown hts hE hA hP hD hS hret ls hl
  have hown : s.vm.findClass RX8 = some m.cls := hown
  have hl : lv_has ls 5 [(0, .ref a_m), (1, .int v1), (2, .int v2), (3, .int v3), (4, .int v4)] := hl
  have fL16 := hts (.fieldLink RX8 16 "RainShelvesModel" "draft" "[I") (List.mem_of_getElem? (i := 1) rfl)
  unfold f_X8_once at hf
  refine lv_aload_n hx hb dX8_once_0 rfl (lv_at hl 0 rfl) ?_
  refine va_get (D := D) (ci := 8) (v := .ref a_m_draft) (C := RX8) (T := TX8) (N := 19) hx hb hts hiX8_once_8 hown hE.1 hP 0 rfl rfl 4 (by decide) fL16 (fun _ h9 => h9) rfl dX8_once_1 ?_
  refine lv_iconst (v := 4) hx hb dX8_once_4 (by decide) ?_
  obtain ⟨hc1, hf⟩ := ck_some hf
  refine va_iald hx hb hE.1 hP 1 0 rfl rfl (ix_in hc1) dX8_once_5 ?_
  refine lv_iload_n hx hb dX8_once_6 rfl (lv_at hl 1 rfl) ?_
  refine lv_iand hx hb dX8_once_7 ?_
  refine lv_if_eq (tgt := 13) hx hb dX8_once_8 (by decide) (fun hc2 => ?_) (fun hc2 => ?_)
  · have hf := if_t hf hc2
    refine lv_aload_n hx hb dX8_once_13 rfl (lv_at hl 0 rfl) ?_
    refine va_get (D := D) (ci := 8) (v := .ref a_m_draft) (C := RX8) (T := TX8) (N := 19) hx hb hts hiX8_once_8 hown hE.1 hP 0 rfl rfl 4 (by decide) fL16 (fun _ h9 => h9) rfl dX8_once_14 ?_
    refine lv_iconst (v := 4) hx hb dX8_once_17 (by decide) ?_
    refine lv_dup2_11 hx hb dX8_once_18 rfl rfl ?_
    obtain ⟨hc3, hf⟩ := ck_some hf
    refine va_iald hx hb hE.1 hP 1 0 rfl rfl (ix_in hc3) dX8_once_19 ?_
    refine lv_iload_n hx hb dX8_once_20 rfl (lv_at hl 1 rfl) ?_
    refine lv_ior hx hb dX8_once_21 ?_
    obtain ⟨hc4, hf⟩ := ck_some hf
    refine va_iast hx hb hE.1 hP hD hS 1 0 rfl rfl (ix_in hc4) dX8_once_22 (fun H locs hP hD hS => ?_)
    have hPD : PD D A [(a_m, .inr (8, [.long m_trace, .ref a_m_text, .int m_typed, .ref a_m_told, .ref a_m_draft, .ref a_m_s, .ref a_m_past, .int m_known, .ref a_m_images, .ref a_m_kept, .ref a_m_notes, .ref a_m_noted, .int m_many, .int m_at, .int m_sort, .int m_start, .int m_value, .ref a_m_held, .ref a_m_few])), (a_m_draft, .inl (cI, 33, .inl (upd m_draft (4 : Int32).toNatClampNeg ((m_draft (4 : Int32).toNatClampNeg) ||| v1)))), (a_m_text, .inl (cI, 200, .inl m_text))] H := ⟨hP, hD⟩
    obtain ⟨hP, hD⟩ := hPD
    refine lv_aload_n hx hb dX8_once_23 rfl (lv_at hl 0 rfl) ?_
    refine lv_iload_n hx hb dX8_once_24 rfl (lv_at hl 2 rfl) ?_
    refine lv_iload_n hx hb dX8_once_25 rfl (lv_at hl 3 rfl) ?_
    refine lv_iload hx hb dX8_once_26 (lv_at hl 4 rfl) ?_
    obtain ⟨u1, hu1, hf⟩ := bd_some hf
    refine cl_iV (As := [.int v2, .int v3, .int v4]) (rest := []) ⟨hx, hb, hml, hown, hts⟩ (c_X8_number l D cI cZ cR a_m a_m_text a_m_draft a_m_told a_m_s a_m_past a_m_images a_m_kept a_m_notes a_m_noted a_m_held a_m_few m_trace m_typed m_known m_many m_at m_sort m_start m_value m_text (upd m_draft (4 : Int32).toNatClampNeg ((m_draft (4 : Int32).toNatClampNeg) ||| v1)) v2 v3 v4 u1 hu1) (cw_X8_once_X8_number_82 hts) hE hP hD hS hA [0, 2, 1] rfl rfl [a_m, a_m_text, a_m_draft] rfl rfl 0 8 rfl rfl rfl hl.1 rfl (Nat.le_of_ble_eq_true rfl) dX8_once_28 ⟨Nat.zero_le _, Nat.zero_le _⟩ (fun H locs hP hD hS => ?_)
    have hPD : PD D A [(a_m, .inr (8, [.long m_trace, .ref a_m_text, .int m_typed, .ref a_m_told, .ref a_m_draft, .ref a_m_s, .ref a_m_past, .int m_known, .ref a_m_images, .ref a_m_kept, .ref a_m_notes, .ref a_m_noted, .int m_many, .int u1.2.1, .int u1.2.2.1, .int u1.2.2.2.1, .int u1.2.2.2.2.1, .ref a_m_held, .ref a_m_few])), (a_m_draft, .inl (cI, 33, .inl u1.2.2.2.2.2)), (a_m_text, .inl (cI, 200, .inl m_text))] H := ⟨hP, hD⟩
    obtain ⟨hP, hD⟩ := hPD
    obtain ⟨hc5, hf⟩ := ck_some hf
    have he := Option.some.inj hf
    subst he
    exact hret _ _ _ _ dX8_once_31 (bo_nar hc5) hP hD hS
  · have hf := if_f hf hc2
    refine lv_iconst (v := 0) hx hb dX8_once_11 (by decide) ?_
    have he := Option.some.inj hf
    subst he
    exact hret _ _ _ _ dX8_once_12 bn0 hP hD hS
abbrev rmX8_readsItem : Room := { frames := 5, cells := 0, slots := 0, locals := 110 }
theorem hiX8_readsItem_8 : ∀ w ∈ wsX80, w ∈ wsX8_readsItem := fun w h => (goodIn_r (big := wsX8_readsItem) wsX80 [31, 32, 33, 34, 35, 36, 37, 38, 39, 40, 41, 42, 43, 44, 45, 46, 47, 48, 49] rfl (by decide +kernel) w h).1
theorem cw_X8_readsItem_X8_once_85 {s : State} {args : Array Value} (hts : ∀ x ∈ wsX8_readsItem, x.before args s = true) : CallW rmX8_readsItem s args RX8 RX8 85 yX8_once cX8_once 5 (some .boolean) wsX8_once rmX8_once 0 0 4 := cwV 4 hts gX8_readsItem_X8_once rfl rfl rfl (by decide +kernel) ⟨Nat.le_of_ble_eq_true rfl, Nat.le_of_ble_eq_true rfl⟩
theorem cw_X8_readsItem_X8_number_82 {s : State} {args : Array Value} (hts : ∀ x ∈ wsX8_readsItem, x.before args s = true) : CallW rmX8_readsItem s args RX8 RX8 82 yX8_number cX8_number 4 (some .boolean) wsX8_number rmX8_number 0 0 3 := cwV 3 hts gX8_readsItem_X8_number rfl rfl rfl (by decide +kernel) ⟨Nat.le_of_ble_eq_true rfl, Nat.le_of_ble_eq_true rfl⟩
set_option maxRecDepth 100000 in
set_option maxHeartbeats 4000000 in
theorem c_X8_readsItem (l : Launch) (D : va_G) (cI cZ cR : ClassId) (a_m : Nat) (a_m_draft : Nat) (a_m_text : Nat) (a_m_told : Nat) (a_m_s : Nat) (a_m_past : Nat) (a_m_images : Nat) (a_m_kept : Nat) (a_m_notes : Nat) (a_m_noted : Nat) (a_m_held : Nat) (a_m_few : Nat) (m_trace : Int64) (m_typed : Int32) (m_known : Int32) (m_many : Int32) (m_at : Int32) (m_sort : Int32) (m_start : Int32) (m_value : Int32) (m_draft : Nat → Int32) (m_text : Nat → Int32) (out : Int32 × Int32 × Int32 × Int32 × Int32 × (Nat → Int32)) (hf : f_X8_readsItem m_typed m_at m_sort m_start m_value m_draft m_text = some out) : Ci l yX8_readsItem wsX8_readsItem rmX8_readsItem D cI cZ cR [.ref a_m] [(a_m, .inr (8, [.long m_trace, .ref a_m_text, .int m_typed, .ref a_m_told, .ref a_m_draft, .ref a_m_s, .ref a_m_past, .int m_known, .ref a_m_images, .ref a_m_kept, .ref a_m_notes, .ref a_m_noted, .int m_many, .int m_at, .int m_sort, .int m_start, .int m_value, .ref a_m_held, .ref a_m_few])), (a_m_draft, .inl (cI, 33, .inl m_draft)), (a_m_text, .inl (cI, 200, .inl m_text))] out.1 [(a_m, .inr (8, [.long m_trace, .ref a_m_text, .int m_typed, .ref a_m_told, .ref a_m_draft, .ref a_m_s, .ref a_m_past, .int m_known, .ref a_m_images, .ref a_m_kept, .ref a_m_notes, .ref a_m_noted, .int m_many, .int out.2.1, .int out.2.2.1, .int out.2.2.2.1, .int out.2.2.2.2.1, .ref a_m_held, .ref a_m_few])), (a_m_draft, .inl (cI, 33, .inl out.2.2.2.2.2)), (a_m_text, .inl (cI, 200, .inl m_text))] := by
  refine ent_i (cc := cX8_readsItem) (maxL := 3) .boolean (by decide) rfl (Nat.le_of_ble_eq_true rfl) ?_
  intro p e s m below meth c A Q hx hb hml hown hts hE hA hP hD hS hret ls hl
  have hown : s.vm.findClass RX8 = some m.cls := hown
  have hl : lv_has ls 3 [(0, .ref a_m)] := hl
  have fL16 := hts (.fieldLink RX8 16 "RainShelvesModel" "draft" "[I") (List.mem_of_getElem? (i := 3) rfl)
  have fL73 := hts (.fieldLink RX8 73 "RainShelvesModel" "sort" "I") (List.mem_of_getElem? (i := 1) rfl)
  have fL76 := hts (.fieldLink RX8 76 "RainShelvesModel" "value" "I") (List.mem_of_getElem? (i := 2) rfl)
  unfold f_X8_readsItem at hf
  have J16 : ∀ (s0_16 : Int32), f_X8_readsItem_J16 m_typed m_at m_sort m_start m_value m_draft m_text s0_16 = some out → ∀ (H : Heap) (locs : List Loc) (ls : Array Slot), PD D A [(a_m, .inr (8, [.long m_trace, .ref a_m_text, .int m_typed, .ref a_m_told, .ref a_m_draft, .ref a_m_s, .ref a_m_past, .int m_known, .ref a_m_images, .ref a_m_kept, .ref a_m_notes, .ref a_m_noted, .int m_many, .int m_at, .int m_sort, .int m_start, .int m_value, .ref a_m_held, .ref a_m_few])), (a_m_draft, .inl (cI, 33, .inl m_draft)), (a_m_text, .inl (cI, 200, .inl m_text))] H → va_S A s.heap H locs → lv_has ls 3 [(0, .ref a_m)] → W p l e rmX8_readsItem s m ([.ref a_m] : List Value).toArray below meth c H locs 0 0 Q (F0 m 16 ls [.int s0_16]) := by
    intro s0_16 hf H locs ls hPD hS hl
    obtain ⟨hP, hD⟩ := hPD
    unfold f_X8_readsItem_J16 at hf
    refine lv_istore_n (lv' := [(1, .int s0_16), (0, .ref a_m)]) hx hb dX8_readsItem_16 rfl hl (by decide) rfl (fun ls hl => ?_)
    refine lv_iload_n hx hb dX8_readsItem_17 rfl (lv_at hl 0 rfl) ?_
    refine lv_bipush (v := 112) hx hb dX8_readsItem_18 (by decide) ?_
    refine lv_icmp_ne (tgt := 104) hx hb dX8_readsItem_20 (by decide) (fun hc1 => ?_) (fun hc1 => ?_)
    · have hf := if_f hf hc1
      refine lv_iload_n hx hb dX8_readsItem_104 rfl (lv_at hl 0 rfl) ?_
      refine lv_bipush (v := 108) hx hb dX8_readsItem_105 (by decide) ?_
      refine lv_icmp_ne (tgt := 122) hx hb dX8_readsItem_107 (by decide) (fun hc2 => ?_) (fun hc2 => ?_)
      · have hf := if_f hf hc2
        refine lv_iload_n hx hb dX8_readsItem_122 rfl (lv_at hl 0 rfl) ?_
        refine lv_bipush (v := 115) hx hb dX8_readsItem_123 (by decide) ?_
        refine lv_icmp_ne (tgt := 145) hx hb dX8_readsItem_125 (by decide) (fun hc3 => ?_) (fun hc3 => ?_)
        · have hf := if_f hf hc3
          refine lv_iconst (v := 0) hx hb dX8_readsItem_145 (by decide) ?_
          have he := Option.some.inj hf
          subst he
          exact hret _ _ _ _ dX8_readsItem_146 bn0 hP hD hS
        · have hf := if_t hf hc3
          refine lv_aload_n hx hb dX8_readsItem_128 rfl (lv_at hl 1 rfl) ?_
          refine lv_iconst (v := 2) hx hb dX8_readsItem_129 (by decide) ?_
          refine lv_iconst (v := 2) hx hb dX8_readsItem_130 (by decide) ?_
          refine lv_bipush (v := 10) hx hb dX8_readsItem_131 (by decide) ?_
          refine lv_bipush (v := 99) hx hb dX8_readsItem_133 (by decide) ?_
          obtain ⟨u1, hu1, hf⟩ := bd_some hf
          refine cl_iV (As := [.int 2, .int 2, .int 10, .int 99]) (rest := []) ⟨hx, hb, hml, hown, hts⟩ (c_X8_once l D cI cZ cR a_m a_m_draft a_m_text a_m_told a_m_s a_m_past a_m_images a_m_kept a_m_notes a_m_noted a_m_held a_m_few m_trace m_typed m_known m_many m_at m_sort m_start m_value m_draft m_text 2 2 10 99 u1 hu1) (cw_X8_readsItem_X8_once_85 hts) hE hP hD hS hA [0, 1, 2] rfl rfl [a_m, a_m_draft, a_m_text] rfl rfl 0 8 rfl rfl rfl hl.1 rfl (Nat.le_of_ble_eq_true rfl) dX8_readsItem_135 ⟨Nat.zero_le _, Nat.zero_le _⟩ (fun H locs hP hD hS => ?_)
          have hPD : PD D A [(a_m, .inr (8, [.long m_trace, .ref a_m_text, .int m_typed, .ref a_m_told, .ref a_m_draft, .ref a_m_s, .ref a_m_past, .int m_known, .ref a_m_images, .ref a_m_kept, .ref a_m_notes, .ref a_m_noted, .int m_many, .int u1.2.1, .int u1.2.2.1, .int u1.2.2.2.1, .int u1.2.2.2.2.1, .ref a_m_held, .ref a_m_few])), (a_m_draft, .inl (cI, 33, .inl u1.2.2.2.2.2)), (a_m_text, .inl (cI, 200, .inl m_text))] H := ⟨hP, hD⟩
          obtain ⟨hP, hD⟩ := hPD
          refine lv_if_eq (tgt := 145) hx hb dX8_readsItem_138 (by decide) (fun hc4 => ?_) (fun hc4 => ?_)
          · have hf := if_t hf hc4
            refine lv_iconst (v := 0) hx hb dX8_readsItem_145 (by decide) ?_
            have he := Option.some.inj hf
            subst he
            exact hret _ _ _ _ dX8_readsItem_146 bn0 hP hD hS
          · have hf := if_f hf hc4
            refine lv_iconst (v := 1) hx hb dX8_readsItem_141 (by decide) ?_
            refine lv_goto (tgt := 146) hx hb dX8_readsItem_142 (by decide) ?_
            have he := Option.some.inj hf
            subst he
            exact hret _ _ _ _ dX8_readsItem_146 bn1 hP hD hS
      · have hf := if_t hf hc2
        refine lv_aload_n hx hb dX8_readsItem_110 rfl (lv_at hl 1 rfl) ?_
        refine lv_iconst (v := 1) hx hb dX8_readsItem_111 (by decide) ?_
        refine lv_iconst (v := 1) hx hb dX8_readsItem_112 (by decide) ?_
        refine lv_iconst (v := 1) hx hb dX8_readsItem_113 (by decide) ?_
        refine lv_bipush (v := 60) hx hb dX8_readsItem_114 (by decide) ?_
        obtain ⟨u2, hu2, hf⟩ := bd_some hf
        refine cl_iV (As := [.int 1, .int 1, .int 1, .int 60]) (rest := []) ⟨hx, hb, hml, hown, hts⟩ (c_X8_once l D cI cZ cR a_m a_m_draft a_m_text a_m_told a_m_s a_m_past a_m_images a_m_kept a_m_notes a_m_noted a_m_held a_m_few m_trace m_typed m_known m_many m_at m_sort m_start m_value m_draft m_text 1 1 1 60 u2 hu2) (cw_X8_readsItem_X8_once_85 hts) hE hP hD hS hA [0, 1, 2] rfl rfl [a_m, a_m_draft, a_m_text] rfl rfl 0 8 rfl rfl rfl hl.1 rfl (Nat.le_of_ble_eq_true rfl) dX8_readsItem_116 ⟨Nat.zero_le _, Nat.zero_le _⟩ (fun H locs hP hD hS => ?_)
        have hPD : PD D A [(a_m, .inr (8, [.long m_trace, .ref a_m_text, .int m_typed, .ref a_m_told, .ref a_m_draft, .ref a_m_s, .ref a_m_past, .int m_known, .ref a_m_images, .ref a_m_kept, .ref a_m_notes, .ref a_m_noted, .int m_many, .int u2.2.1, .int u2.2.2.1, .int u2.2.2.2.1, .int u2.2.2.2.2.1, .ref a_m_held, .ref a_m_few])), (a_m_draft, .inl (cI, 33, .inl u2.2.2.2.2.2)), (a_m_text, .inl (cI, 200, .inl m_text))] H := ⟨hP, hD⟩
        obtain ⟨hP, hD⟩ := hPD
        refine lv_goto (tgt := 146) hx hb dX8_readsItem_119 (by decide) ?_
        obtain ⟨hc5, hf⟩ := ck_some hf
        have he := Option.some.inj hf
        subst he
        exact hret _ _ _ _ dX8_readsItem_146 (bo_nar hc5) hP hD hS
    · have hf := if_t hf hc1
      refine lv_aload_n hx hb dX8_readsItem_23 rfl (lv_at hl 1 rfl) ?_
      refine va_get (D := D) (ci := 8) (v := .ref a_m_draft) (C := RX8) (T := TX8) (N := 19) hx hb hts hiX8_readsItem_8 hown hE.1 hP 0 rfl rfl 4 (by decide) fL16 (fun _ h9 => h9) rfl dX8_readsItem_24 ?_
      refine lv_iconst (v := 0) hx hb dX8_readsItem_27 (by decide) ?_
      obtain ⟨hc6, hf⟩ := ck_some hf
      refine va_iald hx hb hE.1 hP 1 0 rfl rfl (ix_in hc6) dX8_readsItem_28 ?_
      refine lv_istore_n (lv' := [(2, .int (m_draft (0 : Int32).toNatClampNeg)), (1, .int s0_16), (0, .ref a_m)]) hx hb dX8_readsItem_29 rfl hl (by decide) rfl (fun ls hl => ?_)
      refine lv_iload_n hx hb dX8_readsItem_30 rfl (lv_at hl 0 rfl) ?_
      refine lv_bipush (v := 7) hx hb dX8_readsItem_31 (by decide) ?_
      refine lv_icmp_eq (tgt := 90) hx hb dX8_readsItem_33 (by decide) (fun hc7 => ?_) (fun hc7 => ?_)
      · have hf := if_t hf hc7
        refine lv_iconst (v := 0) hx hb dX8_readsItem_90 (by decide) ?_
        have he := Option.some.inj hf
        subst he
        exact hret _ _ _ _ dX8_readsItem_91 bn0 hP hD hS
      · have hf := if_f hf hc7
        refine lv_aload_n hx hb dX8_readsItem_36 rfl (lv_at hl 2 rfl) ?_
        refine lv_iconst (v := 5) hx hb dX8_readsItem_37 (by decide) ?_
        refine lv_iload_n hx hb dX8_readsItem_38 rfl (lv_at hl 0 rfl) ?_
        refine lv_iadd hx hb dX8_readsItem_39 ?_
        refine lv_iconst (v := 0) hx hb dX8_readsItem_40 (by decide) ?_
        refine lv_bipush (v := 99) hx hb dX8_readsItem_41 (by decide) ?_
        obtain ⟨u3, hu3, hf⟩ := bd_some hf
        refine cl_iV (As := [.int (5 + (m_draft (0 : Int32).toNatClampNeg)), .int 0, .int 99]) (rest := []) ⟨hx, hb, hml, hown, hts⟩ (c_X8_number l D cI cZ cR a_m a_m_text a_m_draft a_m_told a_m_s a_m_past a_m_images a_m_kept a_m_notes a_m_noted a_m_held a_m_few m_trace m_typed m_known m_many m_at m_sort m_start m_value m_text m_draft (5 + (m_draft (0 : Int32).toNatClampNeg)) 0 99 u3 hu3) (cw_X8_readsItem_X8_number_82 hts) hE hP hD hS hA [0, 2, 1] rfl rfl [a_m, a_m_text, a_m_draft] rfl rfl 0 8 rfl rfl rfl hl.1 rfl (Nat.le_of_ble_eq_true rfl) dX8_readsItem_43 ⟨Nat.zero_le _, Nat.zero_le _⟩ (fun H locs hP hD hS => ?_)
        have hPD : PD D A [(a_m, .inr (8, [.long m_trace, .ref a_m_text, .int m_typed, .ref a_m_told, .ref a_m_draft, .ref a_m_s, .ref a_m_past, .int m_known, .ref a_m_images, .ref a_m_kept, .ref a_m_notes, .ref a_m_noted, .int m_many, .int u3.2.1, .int u3.2.2.1, .int u3.2.2.2.1, .int u3.2.2.2.2.1, .ref a_m_held, .ref a_m_few])), (a_m_draft, .inl (cI, 33, .inl u3.2.2.2.2.2)), (a_m_text, .inl (cI, 200, .inl m_text))] H := ⟨hP, hD⟩
        obtain ⟨hP, hD⟩ := hPD
        refine lv_if_eq (tgt := 90) hx hb dX8_readsItem_46 (by decide) (fun hc8 => ?_) (fun hc8 => ?_)
        · have hf := if_t hf hc8
          refine lv_iconst (v := 0) hx hb dX8_readsItem_90 (by decide) ?_
          have he := Option.some.inj hf
          subst he
          exact hret _ _ _ _ dX8_readsItem_91 bn0 hP hD hS
        · have hf := if_f hf hc8
          refine lv_aload_n hx hb dX8_readsItem_49 rfl (lv_at hl 2 rfl) ?_
          refine lv_bipush (v := 12) hx hb dX8_readsItem_50 (by decide) ?_
          refine lv_iload_n hx hb dX8_readsItem_52 rfl (lv_at hl 0 rfl) ?_
          refine lv_iadd hx hb dX8_readsItem_53 ?_
          refine lv_iconst (v := 0) hx hb dX8_readsItem_54 (by decide) ?_
          refine lv_bipush (v := 60) hx hb dX8_readsItem_55 (by decide) ?_
          obtain ⟨u4, hu4, hf⟩ := bd_some hf
          refine cl_iV (As := [.int (12 + (m_draft (0 : Int32).toNatClampNeg)), .int 0, .int 60]) (rest := []) ⟨hx, hb, hml, hown, hts⟩ (c_X8_number l D cI cZ cR a_m a_m_text a_m_draft a_m_told a_m_s a_m_past a_m_images a_m_kept a_m_notes a_m_noted a_m_held a_m_few m_trace m_typed m_known m_many u3.2.1 u3.2.2.1 u3.2.2.2.1 u3.2.2.2.2.1 m_text u3.2.2.2.2.2 (12 + (m_draft (0 : Int32).toNatClampNeg)) 0 60 u4 hu4) (cw_X8_readsItem_X8_number_82 hts) hE hP hD hS hA [0, 2, 1] rfl rfl [a_m, a_m_text, a_m_draft] rfl rfl 0 8 rfl rfl rfl hl.1 rfl (Nat.le_of_ble_eq_true rfl) dX8_readsItem_57 ⟨Nat.zero_le _, Nat.zero_le _⟩ (fun H locs hP hD hS => ?_)
          have hPD : PD D A [(a_m, .inr (8, [.long m_trace, .ref a_m_text, .int m_typed, .ref a_m_told, .ref a_m_draft, .ref a_m_s, .ref a_m_past, .int m_known, .ref a_m_images, .ref a_m_kept, .ref a_m_notes, .ref a_m_noted, .int m_many, .int u4.2.1, .int u4.2.2.1, .int u4.2.2.2.1, .int u4.2.2.2.2.1, .ref a_m_held, .ref a_m_few])), (a_m_draft, .inl (cI, 33, .inl u4.2.2.2.2.2)), (a_m_text, .inl (cI, 200, .inl m_text))] H := ⟨hP, hD⟩
          obtain ⟨hP, hD⟩ := hPD
          refine lv_if_eq (tgt := 90) hx hb dX8_readsItem_60 (by decide) (fun hc9 => ?_) (fun hc9 => ?_)
          · have hf := if_t hf hc9
            refine lv_iconst (v := 0) hx hb dX8_readsItem_90 (by decide) ?_
            have he := Option.some.inj hf
            subst he
            exact hret _ _ _ _ dX8_readsItem_91 bn0 hP hD hS
          · have hf := if_f hf hc9
            refine lv_aload_n hx hb dX8_readsItem_63 rfl (lv_at hl 2 rfl) ?_
            refine lv_bipush (v := 19) hx hb dX8_readsItem_64 (by decide) ?_
            refine lv_iload_n hx hb dX8_readsItem_66 rfl (lv_at hl 0 rfl) ?_
            refine lv_iadd hx hb dX8_readsItem_67 ?_
            refine lv_iconst (v := 0) hx hb dX8_readsItem_68 (by decide) ?_
            refine lv_bipush (v := 9) hx hb dX8_readsItem_69 (by decide) ?_
            obtain ⟨u5, hu5, hf⟩ := bd_some hf
            refine cl_iV (As := [.int (19 + (m_draft (0 : Int32).toNatClampNeg)), .int 0, .int 9]) (rest := []) ⟨hx, hb, hml, hown, hts⟩ (c_X8_number l D cI cZ cR a_m a_m_text a_m_draft a_m_told a_m_s a_m_past a_m_images a_m_kept a_m_notes a_m_noted a_m_held a_m_few m_trace m_typed m_known m_many u4.2.1 u4.2.2.1 u4.2.2.2.1 u4.2.2.2.2.1 m_text u4.2.2.2.2.2 (19 + (m_draft (0 : Int32).toNatClampNeg)) 0 9 u5 hu5) (cw_X8_readsItem_X8_number_82 hts) hE hP hD hS hA [0, 2, 1] rfl rfl [a_m, a_m_text, a_m_draft] rfl rfl 0 8 rfl rfl rfl hl.1 rfl (Nat.le_of_ble_eq_true rfl) dX8_readsItem_71 ⟨Nat.zero_le _, Nat.zero_le _⟩ (fun H locs hP hD hS => ?_)
            have hPD : PD D A [(a_m, .inr (8, [.long m_trace, .ref a_m_text, .int m_typed, .ref a_m_told, .ref a_m_draft, .ref a_m_s, .ref a_m_past, .int m_known, .ref a_m_images, .ref a_m_kept, .ref a_m_notes, .ref a_m_noted, .int m_many, .int u5.2.1, .int u5.2.2.1, .int u5.2.2.2.1, .int u5.2.2.2.2.1, .ref a_m_held, .ref a_m_few])), (a_m_draft, .inl (cI, 33, .inl u5.2.2.2.2.2)), (a_m_text, .inl (cI, 200, .inl m_text))] H := ⟨hP, hD⟩
            obtain ⟨hP, hD⟩ := hPD
            refine lv_if_eq (tgt := 90) hx hb dX8_readsItem_74 (by decide) (fun hc10 => ?_) (fun hc10 => ?_)
            · have hf := if_t hf hc10
              refine lv_iconst (v := 0) hx hb dX8_readsItem_90 (by decide) ?_
              have he := Option.some.inj hf
              subst he
              exact hret _ _ _ _ dX8_readsItem_91 bn0 hP hD hS
            · have hf := if_f hf hc10
              refine lv_aload_n hx hb dX8_readsItem_77 rfl (lv_at hl 2 rfl) ?_
              refine lv_bipush (v := 26) hx hb dX8_readsItem_78 (by decide) ?_
              refine lv_iload_n hx hb dX8_readsItem_80 rfl (lv_at hl 0 rfl) ?_
              refine lv_iadd hx hb dX8_readsItem_81 ?_
              refine lv_iconst (v := 0) hx hb dX8_readsItem_82 (by decide) ?_
              refine lv_iconst (v := 2) hx hb dX8_readsItem_83 (by decide) ?_
              obtain ⟨u6, hu6, hf⟩ := bd_some hf
              refine cl_iV (As := [.int (26 + (m_draft (0 : Int32).toNatClampNeg)), .int 0, .int 2]) (rest := []) ⟨hx, hb, hml, hown, hts⟩ (c_X8_number l D cI cZ cR a_m a_m_text a_m_draft a_m_told a_m_s a_m_past a_m_images a_m_kept a_m_notes a_m_noted a_m_held a_m_few m_trace m_typed m_known m_many u5.2.1 u5.2.2.1 u5.2.2.2.1 u5.2.2.2.2.1 m_text u5.2.2.2.2.2 (26 + (m_draft (0 : Int32).toNatClampNeg)) 0 2 u6 hu6) (cw_X8_readsItem_X8_number_82 hts) hE hP hD hS hA [0, 2, 1] rfl rfl [a_m, a_m_text, a_m_draft] rfl rfl 0 8 rfl rfl rfl hl.1 rfl (Nat.le_of_ble_eq_true rfl) dX8_readsItem_84 ⟨Nat.zero_le _, Nat.zero_le _⟩ (fun H locs hP hD hS => ?_)
              have hPD : PD D A [(a_m, .inr (8, [.long m_trace, .ref a_m_text, .int m_typed, .ref a_m_told, .ref a_m_draft, .ref a_m_s, .ref a_m_past, .int m_known, .ref a_m_images, .ref a_m_kept, .ref a_m_notes, .ref a_m_noted, .int m_many, .int u6.2.1, .int u6.2.2.1, .int u6.2.2.2.1, .int u6.2.2.2.2.1, .ref a_m_held, .ref a_m_few])), (a_m_draft, .inl (cI, 33, .inl u6.2.2.2.2.2)), (a_m_text, .inl (cI, 200, .inl m_text))] H := ⟨hP, hD⟩
              obtain ⟨hP, hD⟩ := hPD
              refine lv_if_ne (tgt := 92) hx hb dX8_readsItem_87 (by decide) (fun hc11 => ?_) (fun hc11 => ?_)
              · have hf := if_f hf hc11
                refine lv_aload_n hx hb dX8_readsItem_92 rfl (lv_at hl 2 rfl) ?_
                refine va_get (D := D) (ci := 8) (v := .ref a_m_draft) (C := RX8) (T := TX8) (N := 19) hx hb hts hiX8_readsItem_8 hown hE.1 hP 0 rfl rfl 4 (by decide) fL16 (fun _ h9 => h9) rfl dX8_readsItem_93 ?_
                refine lv_iconst (v := 0) hx hb dX8_readsItem_96 (by decide) ?_
                refine lv_dup2_11 hx hb dX8_readsItem_97 rfl rfl ?_
                obtain ⟨hc12, hf⟩ := ck_some hf
                refine va_iald hx hb hE.1 hP 1 0 rfl rfl (ix_in hc12) dX8_readsItem_98 ?_
                refine lv_iconst (v := 1) hx hb dX8_readsItem_99 (by decide) ?_
                refine lv_iadd hx hb dX8_readsItem_100 ?_
                obtain ⟨hc13, hf⟩ := ck_some hf
                refine va_iast hx hb hE.1 hP hD hS 1 0 rfl rfl (ix_in hc13) dX8_readsItem_101 (fun H locs hP hD hS => ?_)
                have hPD : PD D A [(a_m, .inr (8, [.long m_trace, .ref a_m_text, .int m_typed, .ref a_m_told, .ref a_m_draft, .ref a_m_s, .ref a_m_past, .int m_known, .ref a_m_images, .ref a_m_kept, .ref a_m_notes, .ref a_m_noted, .int m_many, .int u6.2.1, .int u6.2.2.1, .int u6.2.2.2.1, .int u6.2.2.2.2.1, .ref a_m_held, .ref a_m_few])), (a_m_draft, .inl (cI, 33, .inl (upd u6.2.2.2.2.2 (0 : Int32).toNatClampNeg ((u6.2.2.2.2.2 (0 : Int32).toNatClampNeg) + 1)))), (a_m_text, .inl (cI, 200, .inl m_text))] H := ⟨hP, hD⟩
                obtain ⟨hP, hD⟩ := hPD
                refine lv_iconst (v := 1) hx hb dX8_readsItem_102 (by decide) ?_
                have he := Option.some.inj hf
                subst he
                exact hret _ _ _ _ dX8_readsItem_103 bn1 hP hD hS
              · have hf := if_t hf hc11
                refine lv_iconst (v := 0) hx hb dX8_readsItem_90 (by decide) ?_
                have he := Option.some.inj hf
                subst he
                exact hret _ _ _ _ dX8_readsItem_91 bn0 hP hD hS
  refine lv_aload_n hx hb dX8_readsItem_0 rfl (lv_at hl 0 rfl) ?_
  refine va_get (D := D) (ci := 8) (v := .int m_sort) (C := RX8) (T := TX8) (N := 19) hx hb hts hiX8_readsItem_8 hown hE.1 hP 0 rfl rfl 14 (by decide) fL73 (fun _ h9 => h9) rfl dX8_readsItem_1 ?_
  refine lv_iconst (v := 1) hx hb dX8_readsItem_4 (by decide) ?_
  refine lv_icmp_ne (tgt := 15) hx hb dX8_readsItem_5 (by decide) (fun hc14 => ?_) (fun hc14 => ?_)
  · have hf := if_f hf hc14
    refine lv_iconst (v := 0) hx hb dX8_readsItem_15 (by decide) ?_
    exact J16 0 hf _ _ _ ⟨hP, hD⟩ hS hl
  · have hf := if_t hf hc14
    refine lv_aload_n hx hb dX8_readsItem_8 rfl (lv_at hl 0 rfl) ?_
    refine va_get (D := D) (ci := 8) (v := .int m_value) (C := RX8) (T := TX8) (N := 19) hx hb hts hiX8_readsItem_8 hown hE.1 hP 0 rfl rfl 16 (by decide) fL76 (fun _ h9 => h9) rfl dX8_readsItem_9 ?_
    refine lv_goto (tgt := 16) hx hb dX8_readsItem_12 (by decide) ?_
    exact J16 m_value hf _ _ _ ⟨hP, hD⟩ hS hl
abbrev rmX8_reads : Room := { frames := 6, cells := 0, slots := 0, locals := 132 }
theorem hiX8_reads_8 : ∀ w ∈ wsX80, w ∈ wsX8_reads := fun w h => (goodIn_r (big := wsX8_reads) wsX80 [35, 36, 37, 38, 39, 40, 41, 42, 43, 44, 45, 46, 47, 48, 49, 50, 51, 52, 53] rfl (by decide +kernel) w h).1
theorem cw_X8_reads_X8_readsItem_89 {s : State} {args : Array Value} (hts : ∀ x ∈ wsX8_reads, x.before args s = true) : CallW rmX8_reads s args RX8 RX8 89 yX8_readsItem cX8_readsItem 3 (some .boolean) wsX8_readsItem rmX8_readsItem 0 0 0 := cwV 0 hts gX8_reads_X8_readsItem rfl rfl rfl (by decide +kernel) ⟨Nat.le_of_ble_eq_true rfl, Nat.le_of_ble_eq_true rfl⟩
theorem cw_X8_reads_X8_token_79 {s : State} {args : Array Value} (hts : ∀ x ∈ wsX8_reads, x.before args s = true) : CallW rmX8_reads s args RX8 RX8 79 yX8_token cX8_token 2 none wsX8_token rmX8_token 0 0 0 := cwV 0 hts gX8_reads_X8_token rfl rfl rfl (by decide +kernel) ⟨Nat.le_of_ble_eq_true rfl, Nat.le_of_ble_eq_true rfl⟩
set_option maxRecDepth 100000 in
set_option maxHeartbeats 4000000 in
theorem c_X8_reads (l : Launch) (D : va_G) (cI cZ cR : ClassId) (a_m : Nat) (a_m_draft : Nat) (a_m_text : Nat) (a_m_told : Nat) (a_m_s : Nat) (a_m_past : Nat) (a_m_images : Nat) (a_m_kept : Nat) (a_m_notes : Nat) (a_m_noted : Nat) (a_m_held : Nat) (a_m_few : Nat) (m_trace : Int64) (m_typed : Int32) (m_known : Int32) (m_many : Int32) (m_at : Int32) (m_sort : Int32) (m_start : Int32) (m_value : Int32) (m_draft : Nat → Int32) (m_text : Nat → Int32) (out : Int32 × Int32 × Int32 × Int32 × Int32 × (Nat → Int32)) (hf : f_X8_reads m_typed m_draft m_text = some out) : Ci l yX8_reads wsX8_reads rmX8_reads D cI cZ cR [.ref a_m] [(a_m, .inr (8, [.long m_trace, .ref a_m_text, .int m_typed, .ref a_m_told, .ref a_m_draft, .ref a_m_s, .ref a_m_past, .int m_known, .ref a_m_images, .ref a_m_kept, .ref a_m_notes, .ref a_m_noted, .int m_many, .int m_at, .int m_sort, .int m_start, .int m_value, .ref a_m_held, .ref a_m_few])), (a_m_draft, .inl (cI, 33, .inl m_draft)), (a_m_text, .inl (cI, 200, .inl m_text))] out.1 [(a_m, .inr (8, [.long m_trace, .ref a_m_text, .int m_typed, .ref a_m_told, .ref a_m_draft, .ref a_m_s, .ref a_m_past, .int m_known, .ref a_m_images, .ref a_m_kept, .ref a_m_notes, .ref a_m_noted, .int m_many, .int out.2.1, .int out.2.2.1, .int out.2.2.2.1, .int out.2.2.2.2.1, .ref a_m_held, .ref a_m_few])), (a_m_draft, .inl (cI, 33, .inl out.2.2.2.2.2)), (a_m_text, .inl (cI, 200, .inl m_text))] := by
  refine ent_i (cc := cX8_reads) (maxL := 2) .boolean (by decide) rfl (Nat.le_of_ble_eq_true rfl) ?_
  intro p e s m below meth c A Q hx hb hml hown hts hE hA hP hD hS hret ls hl
  have hown : s.vm.findClass RX8 = some m.cls := hown
  have hl : lv_has ls 2 [(0, .ref a_m)] := hl
  have fL16 := hts (.fieldLink RX8 16 "RainShelvesModel" "draft" "[I") (List.mem_of_getElem? (i := 1) rfl)
  have fL59 := hts (.fieldLink RX8 59 "RainShelvesModel" "at" "I") (List.mem_of_getElem? (i := 2) rfl)
  have fL73 := hts (.fieldLink RX8 73 "RainShelvesModel" "sort" "I") (List.mem_of_getElem? (i := 3) rfl)
  unfold f_X8_reads at hf
  have L45 : ∀ (n45 : Nat) (m_at_45 : Int32) (m_sort_45 : Int32) (m_start_45 : Int32) (m_value_45 : Int32) (m_draft_45 : Nat → Int32), f_X8_reads_L45 m_typed m_text n45 m_at_45 m_sort_45 m_start_45 m_value_45 m_draft_45 = some out → ∀ (H : Heap) (locs : List Loc) (ls : Array Slot), PD D A [(a_m, .inr (8, [.long m_trace, .ref a_m_text, .int m_typed, .ref a_m_told, .ref a_m_draft, .ref a_m_s, .ref a_m_past, .int m_known, .ref a_m_images, .ref a_m_kept, .ref a_m_notes, .ref a_m_noted, .int m_many, .int m_at_45, .int m_sort_45, .int m_start_45, .int m_value_45, .ref a_m_held, .ref a_m_few])), (a_m_draft, .inl (cI, 33, .inl m_draft_45)), (a_m_text, .inl (cI, 200, .inl m_text))] H → va_S A s.heap H locs → lv_has ls 2 [(0, .ref a_m)] → W p l e rmX8_reads s m ([.ref a_m] : List Value).toArray below meth c H locs 0 0 Q (F0 m 45 ls []) := by
    intro  n45
    induction n45 with
    | zero => intro m_at_45 m_sort_45 m_start_45 m_value_45 m_draft_45 hf; cases hf
    | succ n45 ih45 =>
      intro m_at_45 m_sort_45 m_start_45 m_value_45 m_draft_45 hf H locs ls hPD hS hl
      obtain ⟨hP, hD⟩ := hPD
      have hf : f_X8_reads_B45 m_typed m_text (f_X8_reads_L45 m_typed m_text n45) m_at_45 m_sort_45 m_start_45 m_value_45 m_draft_45 = some out := hf
      unfold f_X8_reads_B45 at hf
      refine lv_aload_n hx hb dX8_reads_45 rfl (lv_at hl 0 rfl) ?_
      refine va_get (D := D) (ci := 8) (v := .int m_sort_45) (C := RX8) (T := TX8) (N := 19) hx hb hts hiX8_reads_8 hown hE.1 hP 0 rfl rfl 14 (by decide) fL73 (fun _ h9 => h9) rfl dX8_reads_46 ?_
      refine lv_if_eq (tgt := 92) hx hb dX8_reads_49 (by decide) (fun hc1 => ?_) (fun hc1 => ?_)
      · have hf := if_t hf hc1
        refine lv_iconst (v := 1) hx hb dX8_reads_92 (by decide) ?_
        have he := Option.some.inj hf
        subst he
        exact hret _ _ _ _ dX8_reads_93 bn1 hP hD hS
      · have hf := if_f hf hc1
        refine lv_aload_n hx hb dX8_reads_52 rfl (lv_at hl 0 rfl) ?_
        obtain ⟨u1, hu1, hf⟩ := bd_some hf
        refine cl_iV (As := []) (rest := []) ⟨hx, hb, hml, hown, hts⟩ (c_X8_readsItem l D cI cZ cR a_m a_m_draft a_m_text a_m_told a_m_s a_m_past a_m_images a_m_kept a_m_notes a_m_noted a_m_held a_m_few m_trace m_typed m_known m_many m_at_45 m_sort_45 m_start_45 m_value_45 m_draft_45 m_text  u1 hu1) (cw_X8_reads_X8_readsItem_89 hts) hE hP hD hS hA [0, 1, 2] rfl rfl [a_m, a_m_draft, a_m_text] rfl rfl 0 8 rfl rfl rfl hl.1 rfl (Nat.le_of_ble_eq_true rfl) dX8_reads_53 ⟨Nat.zero_le _, Nat.zero_le _⟩ (fun H locs hP hD hS => ?_)
        have hPD : PD D A [(a_m, .inr (8, [.long m_trace, .ref a_m_text, .int m_typed, .ref a_m_told, .ref a_m_draft, .ref a_m_s, .ref a_m_past, .int m_known, .ref a_m_images, .ref a_m_kept, .ref a_m_notes, .ref a_m_noted, .int m_many, .int u1.2.1, .int u1.2.2.1, .int u1.2.2.2.1, .int u1.2.2.2.2.1, .ref a_m_held, .ref a_m_few])), (a_m_draft, .inl (cI, 33, .inl u1.2.2.2.2.2)), (a_m_text, .inl (cI, 200, .inl m_text))] H := ⟨hP, hD⟩
        obtain ⟨hP, hD⟩ := hPD
        refine lv_if_ne (tgt := 61) hx hb dX8_reads_56 (by decide) (fun hc2 => ?_) (fun hc2 => ?_)
        · have hf := if_f hf hc2
          refine lv_aload_n hx hb dX8_reads_61 rfl (lv_at hl 0 rfl) ?_
          obtain ⟨u2, hu2, hf⟩ := bd_some hf
          refine cl_vV (As := []) (rest := []) ⟨hx, hb, hml, hown, hts⟩ (c_X8_token l D cI cZ cR a_m a_m_text a_m_told a_m_draft a_m_s a_m_past a_m_images a_m_kept a_m_notes a_m_noted a_m_held a_m_few m_trace m_typed m_known m_many u1.2.1 u1.2.2.1 u1.2.2.2.1 u1.2.2.2.2.1 m_text  u2 hu2) (cw_X8_reads_X8_token_79 hts) hE hP hD hS hA [0, 2] rfl rfl [a_m, a_m_text] rfl rfl 0 8 rfl rfl rfl hl.1 rfl (Nat.le_of_ble_eq_true rfl) dX8_reads_62 ⟨Nat.zero_le _, Nat.zero_le _⟩ (fun H locs hP hD hS => ?_)
          have hPD : PD D A [(a_m, .inr (8, [.long m_trace, .ref a_m_text, .int m_typed, .ref a_m_told, .ref a_m_draft, .ref a_m_s, .ref a_m_past, .int m_known, .ref a_m_images, .ref a_m_kept, .ref a_m_notes, .ref a_m_noted, .int m_many, .int u2.1, .int u2.2.1, .int u2.2.2.1, .int u2.2.2.2, .ref a_m_held, .ref a_m_few])), (a_m_draft, .inl (cI, 33, .inl u1.2.2.2.2.2)), (a_m_text, .inl (cI, 200, .inl m_text))] H := ⟨hP, hD⟩
          obtain ⟨hP, hD⟩ := hPD
          refine lv_aload_n hx hb dX8_reads_65 rfl (lv_at hl 0 rfl) ?_
          refine va_get (D := D) (ci := 8) (v := .int u2.2.1) (C := RX8) (T := TX8) (N := 19) hx hb hts hiX8_reads_8 hown hE.1 hP 0 rfl rfl 14 (by decide) fL73 (fun _ h9 => h9) rfl dX8_reads_66 ?_
          refine lv_iconst (v := 3) hx hb dX8_reads_69 (by decide) ?_
          refine lv_icmp_eq (tgt := 75) hx hb dX8_reads_70 (by decide) (fun hc3 => ?_) (fun hc3 => ?_)
          · have hf := if_t hf hc3
            refine lv_aload_n hx hb dX8_reads_75 rfl (lv_at hl 0 rfl) ?_
            refine va_get (D := D) (ci := 8) (v := .ref a_m_draft) (C := RX8) (T := TX8) (N := 19) hx hb hts hiX8_reads_8 hown hE.1 hP 0 rfl rfl 4 (by decide) fL16 (fun _ h9 => h9) rfl dX8_reads_76 ?_
            refine lv_iconst (v := 3) hx hb dX8_reads_79 (by decide) ?_
            refine lv_dup2_11 hx hb dX8_reads_80 rfl rfl ?_
            obtain ⟨hc4, hf⟩ := ck_some hf
            refine va_iald hx hb hE.1 hP 1 0 rfl rfl (ix_in hc4) dX8_reads_81 ?_
            refine lv_iconst (v := 1) hx hb dX8_reads_82 (by decide) ?_
            refine lv_iadd hx hb dX8_reads_83 ?_
            obtain ⟨hc5, hf⟩ := ck_some hf
            refine va_iast hx hb hE.1 hP hD hS 1 0 rfl rfl (ix_in hc5) dX8_reads_84 (fun H locs hP hD hS => ?_)
            have hPD : PD D A [(a_m, .inr (8, [.long m_trace, .ref a_m_text, .int m_typed, .ref a_m_told, .ref a_m_draft, .ref a_m_s, .ref a_m_past, .int m_known, .ref a_m_images, .ref a_m_kept, .ref a_m_notes, .ref a_m_noted, .int m_many, .int u2.1, .int u2.2.1, .int u2.2.2.1, .int u2.2.2.2, .ref a_m_held, .ref a_m_few])), (a_m_draft, .inl (cI, 33, .inl (upd u1.2.2.2.2.2 (3 : Int32).toNatClampNeg ((u1.2.2.2.2.2 (3 : Int32).toNatClampNeg) + 1)))), (a_m_text, .inl (cI, 200, .inl m_text))] H := ⟨hP, hD⟩
            obtain ⟨hP, hD⟩ := hPD
            refine lv_aload_n hx hb dX8_reads_85 rfl (lv_at hl 0 rfl) ?_
            obtain ⟨u3, hu3, hf⟩ := bd_some hf
            refine cl_vV (As := []) (rest := []) ⟨hx, hb, hml, hown, hts⟩ (c_X8_token l D cI cZ cR a_m a_m_text a_m_told a_m_draft a_m_s a_m_past a_m_images a_m_kept a_m_notes a_m_noted a_m_held a_m_few m_trace m_typed m_known m_many u2.1 u2.2.1 u2.2.2.1 u2.2.2.2 m_text  u3 hu3) (cw_X8_reads_X8_token_79 hts) hE hP hD hS hA [0, 2] rfl rfl [a_m, a_m_text] rfl rfl 0 8 rfl rfl rfl hl.1 rfl (Nat.le_of_ble_eq_true rfl) dX8_reads_86 ⟨Nat.zero_le _, Nat.zero_le _⟩ (fun H locs hP hD hS => ?_)
            have hPD : PD D A [(a_m, .inr (8, [.long m_trace, .ref a_m_text, .int m_typed, .ref a_m_told, .ref a_m_draft, .ref a_m_s, .ref a_m_past, .int m_known, .ref a_m_images, .ref a_m_kept, .ref a_m_notes, .ref a_m_noted, .int m_many, .int u3.1, .int u3.2.1, .int u3.2.2.1, .int u3.2.2.2, .ref a_m_held, .ref a_m_few])), (a_m_draft, .inl (cI, 33, .inl (upd u1.2.2.2.2.2 (3 : Int32).toNatClampNeg ((u1.2.2.2.2.2 (3 : Int32).toNatClampNeg) + 1)))), (a_m_text, .inl (cI, 200, .inl m_text))] H := ⟨hP, hD⟩
            obtain ⟨hP, hD⟩ := hPD
            refine lv_goto (tgt := 45) hx hb dX8_reads_89 (by decide) ?_
            exact ih45 u3.1 u3.2.1 u3.2.2.1 u3.2.2.2 (upd u1.2.2.2.2.2 (3 : Int32).toNatClampNeg ((u1.2.2.2.2.2 (3 : Int32).toNatClampNeg) + 1)) hf _ _ _ ⟨hP, hD⟩ hS hl
          · have hf := if_f hf hc3
            refine lv_iconst (v := 0) hx hb dX8_reads_73 (by decide) ?_
            have he := Option.some.inj hf
            subst he
            exact hret _ _ _ _ dX8_reads_74 bn0 hP hD hS
        · have hf := if_t hf hc2
          refine lv_iconst (v := 0) hx hb dX8_reads_59 (by decide) ?_
          have he := Option.some.inj hf
          subst he
          exact hret _ _ _ _ dX8_reads_60 bn0 hP hD hS
  have J21 : ∀ (m_draft_21 : Nat → Int32), f_X8_reads_J21 m_typed m_text m_draft_21 = some out → ∀ (H : Heap) (locs : List Loc) (ls : Array Slot), PD D A [(a_m, .inr (8, [.long m_trace, .ref a_m_text, .int m_typed, .ref a_m_told, .ref a_m_draft, .ref a_m_s, .ref a_m_past, .int m_known, .ref a_m_images, .ref a_m_kept, .ref a_m_notes, .ref a_m_noted, .int m_many, .int m_at, .int m_sort, .int m_start, .int m_value, .ref a_m_held, .ref a_m_few])), (a_m_draft, .inl (cI, 33, .inl m_draft_21)), (a_m_text, .inl (cI, 200, .inl m_text))] H → va_S A s.heap H locs → lv_has ls 2 [(0, .ref a_m)] → W p l e rmX8_reads s m ([.ref a_m] : List Value).toArray below meth c H locs 0 0 Q (F0 m 21 ls []) := by
    intro m_draft_21 hf H locs ls hPD hS hl
    obtain ⟨hP, hD⟩ := hPD
    unfold f_X8_reads_J21 at hf
    refine lv_aload_n hx hb dX8_reads_21 rfl (lv_at hl 0 rfl) ?_
    refine va_get (D := D) (ci := 8) (v := .ref a_m_draft) (C := RX8) (T := TX8) (N := 19) hx hb hts hiX8_reads_8 hown hE.1 hP 0 rfl rfl 4 (by decide) fL16 (fun _ h9 => h9) rfl dX8_reads_22 ?_
    refine lv_iconst (v := 1) hx hb dX8_reads_25 (by decide) ?_
    refine lv_iconst (v := 5) hx hb dX8_reads_26 (by decide) ?_
    obtain ⟨hc6, hf⟩ := ck_some hf
    refine va_iast hx hb hE.1 hP hD hS 1 0 rfl rfl (ix_in hc6) dX8_reads_27 (fun H locs hP hD hS => ?_)
    have hPD : PD D A [(a_m, .inr (8, [.long m_trace, .ref a_m_text, .int m_typed, .ref a_m_told, .ref a_m_draft, .ref a_m_s, .ref a_m_past, .int m_known, .ref a_m_images, .ref a_m_kept, .ref a_m_notes, .ref a_m_noted, .int m_many, .int m_at, .int m_sort, .int m_start, .int m_value, .ref a_m_held, .ref a_m_few])), (a_m_draft, .inl (cI, 33, .inl (upd m_draft_21 (1 : Int32).toNatClampNeg 5))), (a_m_text, .inl (cI, 200, .inl m_text))] H := ⟨hP, hD⟩
    obtain ⟨hP, hD⟩ := hPD
    refine lv_aload_n hx hb dX8_reads_28 rfl (lv_at hl 0 rfl) ?_
    refine va_get (D := D) (ci := 8) (v := .ref a_m_draft) (C := RX8) (T := TX8) (N := 19) hx hb hts hiX8_reads_8 hown hE.1 hP 0 rfl rfl 4 (by decide) fL16 (fun _ h9 => h9) rfl dX8_reads_29 ?_
    refine lv_iconst (v := 2) hx hb dX8_reads_32 (by decide) ?_
    refine lv_bipush (v := 60) hx hb dX8_reads_33 (by decide) ?_
    obtain ⟨hc7, hf⟩ := ck_some hf
    refine va_iast hx hb hE.1 hP hD hS 1 0 rfl rfl (ix_in hc7) dX8_reads_35 (fun H locs hP hD hS => ?_)
    have hPD : PD D A [(a_m, .inr (8, [.long m_trace, .ref a_m_text, .int m_typed, .ref a_m_told, .ref a_m_draft, .ref a_m_s, .ref a_m_past, .int m_known, .ref a_m_images, .ref a_m_kept, .ref a_m_notes, .ref a_m_noted, .int m_many, .int m_at, .int m_sort, .int m_start, .int m_value, .ref a_m_held, .ref a_m_few])), (a_m_draft, .inl (cI, 33, .inl (upd (upd m_draft_21 (1 : Int32).toNatClampNeg 5) (2 : Int32).toNatClampNeg 60))), (a_m_text, .inl (cI, 200, .inl m_text))] H := ⟨hP, hD⟩
    obtain ⟨hP, hD⟩ := hPD
    refine lv_aload_n hx hb dX8_reads_36 rfl (lv_at hl 0 rfl) ?_
    refine lv_iconst (v := 0) hx hb dX8_reads_37 (by decide) ?_
    refine va_put (D := D) (ci := 8) (v := .int 0) (ty := .int) (C := RX8) (T := TX8) (N := 19) hx hb hts hiX8_reads_8 tyX8 tyX8_ok nmX8 hown hE.1 hP hD hS 0 rfl rfl 13 (by decide) fL59 (fun _ h9 => h9) rfl (tyX8_ok 13 (by decide)) rfl rfl (Nat.le_of_ble_eq_true rfl) dX8_reads_38 (fun H locs hP hD hS => ?_)
    have hPD : PD D A [(a_m, .inr (8, [.long m_trace, .ref a_m_text, .int m_typed, .ref a_m_told, .ref a_m_draft, .ref a_m_s, .ref a_m_past, .int m_known, .ref a_m_images, .ref a_m_kept, .ref a_m_notes, .ref a_m_noted, .int m_many, .int 0, .int m_sort, .int m_start, .int m_value, .ref a_m_held, .ref a_m_few])), (a_m_draft, .inl (cI, 33, .inl (upd (upd m_draft_21 (1 : Int32).toNatClampNeg 5) (2 : Int32).toNatClampNeg 60))), (a_m_text, .inl (cI, 200, .inl m_text))] H := ⟨hP, hD⟩
    obtain ⟨hP, hD⟩ := hPD
    refine lv_aload_n hx hb dX8_reads_41 rfl (lv_at hl 0 rfl) ?_
    obtain ⟨u4, hu4, hf⟩ := bd_some hf
    refine cl_vV (As := []) (rest := []) ⟨hx, hb, hml, hown, hts⟩ (c_X8_token l D cI cZ cR a_m a_m_text a_m_told a_m_draft a_m_s a_m_past a_m_images a_m_kept a_m_notes a_m_noted a_m_held a_m_few m_trace m_typed m_known m_many 0 m_sort m_start m_value m_text  u4 hu4) (cw_X8_reads_X8_token_79 hts) hE hP hD hS hA [0, 2] rfl rfl [a_m, a_m_text] rfl rfl 0 8 rfl rfl rfl hl.1 rfl (Nat.le_of_ble_eq_true rfl) dX8_reads_42 ⟨Nat.zero_le _, Nat.zero_le _⟩ (fun H locs hP hD hS => ?_)
    have hPD : PD D A [(a_m, .inr (8, [.long m_trace, .ref a_m_text, .int m_typed, .ref a_m_told, .ref a_m_draft, .ref a_m_s, .ref a_m_past, .int m_known, .ref a_m_images, .ref a_m_kept, .ref a_m_notes, .ref a_m_noted, .int m_many, .int u4.1, .int u4.2.1, .int u4.2.2.1, .int u4.2.2.2, .ref a_m_held, .ref a_m_few])), (a_m_draft, .inl (cI, 33, .inl (upd (upd m_draft_21 (1 : Int32).toNatClampNeg 5) (2 : Int32).toNatClampNeg 60))), (a_m_text, .inl (cI, 200, .inl m_text))] H := ⟨hP, hD⟩
    obtain ⟨hP, hD⟩ := hPD
    exact L45  FU u4.1 u4.2.1 u4.2.2.1 u4.2.2.2 (upd (upd m_draft_21 (1 : Int32).toNatClampNeg 5) (2 : Int32).toNatClampNeg 60) hf _ _ _ ⟨hP, hD⟩ hS hl
  have L2 : ∀ (n2 : Nat) (v1_2 : Int32) (m_draft_2 : Nat → Int32), f_X8_reads_L2 m_typed m_text n2 v1_2 m_draft_2 = some out → ∀ (H : Heap) (locs : List Loc) (ls : Array Slot), PD D A [(a_m, .inr (8, [.long m_trace, .ref a_m_text, .int m_typed, .ref a_m_told, .ref a_m_draft, .ref a_m_s, .ref a_m_past, .int m_known, .ref a_m_images, .ref a_m_kept, .ref a_m_notes, .ref a_m_noted, .int m_many, .int m_at, .int m_sort, .int m_start, .int m_value, .ref a_m_held, .ref a_m_few])), (a_m_draft, .inl (cI, 33, .inl m_draft_2)), (a_m_text, .inl (cI, 200, .inl m_text))] H → va_S A s.heap H locs → lv_has ls 2 [(0, .ref a_m), (1, .int v1_2)] → W p l e rmX8_reads s m ([.ref a_m] : List Value).toArray below meth c H locs 0 0 Q (F0 m 2 ls []) := by
    intro  n2
    induction n2 with
    | zero => intro v1_2 m_draft_2 hf; cases hf
    | succ n2 ih2 =>
      intro v1_2 m_draft_2 hf H locs ls hPD hS hl
      obtain ⟨hP, hD⟩ := hPD
      have hf : f_X8_reads_B2 m_typed m_text (f_X8_reads_L2 m_typed m_text n2) v1_2 m_draft_2 = some out := hf
      unfold f_X8_reads_B2 at hf
      refine lv_iload_n hx hb dX8_reads_2 rfl (lv_at hl 1 rfl) ?_
      refine lv_bipush (v := 33) hx hb dX8_reads_3 (by decide) ?_
      refine lv_icmp_ge (tgt := 21) hx hb dX8_reads_5 (by decide) (fun hc8 => ?_) (fun hc8 => ?_)
      · have hf := if_t hf hc8
        exact J21 m_draft_2 hf _ _ _ ⟨hP, hD⟩ hS (lv_sub hl [0] rfl)
      · have hf := if_f hf hc8
        refine lv_aload_n hx hb dX8_reads_8 rfl (lv_at hl 0 rfl) ?_
        refine va_get (D := D) (ci := 8) (v := .ref a_m_draft) (C := RX8) (T := TX8) (N := 19) hx hb hts hiX8_reads_8 hown hE.1 hP 0 rfl rfl 4 (by decide) fL16 (fun _ h9 => h9) rfl dX8_reads_9 ?_
        refine lv_iload_n hx hb dX8_reads_12 rfl (lv_at hl 1 rfl) ?_
        refine lv_iconst (v := 0) hx hb dX8_reads_13 (by decide) ?_
        obtain ⟨hc9, hf⟩ := ck_some hf
        refine va_iast hx hb hE.1 hP hD hS 1 0 rfl rfl (ix_in hc9) dX8_reads_14 (fun H locs hP hD hS => ?_)
        have hPD : PD D A [(a_m, .inr (8, [.long m_trace, .ref a_m_text, .int m_typed, .ref a_m_told, .ref a_m_draft, .ref a_m_s, .ref a_m_past, .int m_known, .ref a_m_images, .ref a_m_kept, .ref a_m_notes, .ref a_m_noted, .int m_many, .int m_at, .int m_sort, .int m_start, .int m_value, .ref a_m_held, .ref a_m_few])), (a_m_draft, .inl (cI, 33, .inl (upd m_draft_2 v1_2.toNatClampNeg 0))), (a_m_text, .inl (cI, 200, .inl m_text))] H := ⟨hP, hD⟩
        obtain ⟨hP, hD⟩ := hPD
        refine lv_iinc (v := (v1_2 + 1)) (lv' := [(1, .int (v1_2 + 1)), (0, .ref a_m)]) hx hb dX8_reads_15 hl (k := 1) rfl (ii_p1 _) (by decide) rfl (fun ls hl => ?_)
        refine lv_goto (tgt := 2) hx hb dX8_reads_18 (by decide) ?_
        exact ih2 (v1_2 + 1) (upd m_draft_2 v1_2.toNatClampNeg 0) hf _ _ _ ⟨hP, hD⟩ hS (lv_sub hl [1, 0] rfl)
  refine lv_iconst (v := 0) hx hb dX8_reads_0 (by decide) ?_
  refine lv_istore_n (lv' := [(1, .int 0), (0, .ref a_m)]) hx hb dX8_reads_1 rfl hl (by decide) rfl (fun ls hl => ?_)
  exact L2  FU 0 m_draft hf _ _ _ ⟨hP, hD⟩ hS (lv_sub hl [1, 0] rfl)
abbrev rmX8_tells : Room := { frames := 0, cells := 0, slots := 0, locals := 0 }
theorem hiX8_tells_8 : ∀ w ∈ wsX80, w ∈ wsX8_tells := fun w h => (goodIn_r (big := wsX8_tells) wsX80 [7, 8, 9, 10, 11, 12, 13, 14, 15, 16, 17, 18, 19, 20, 21, 22, 23, 24, 25] rfl (by decide +kernel) w h).1
set_option maxRecDepth 100000 in
set_option maxHeartbeats 4000000 in
theorem c_X8_tells (l : Launch) (D : va_G) (cI cZ cR : ClassId) (a_m : Nat) (a_m_draft : Nat) (a_m_told : Nat) (a_m_s : Nat) (a_m_kept : Nat) (a_m_text : Nat) (a_m_past : Nat) (a_m_images : Nat) (a_m_notes : Nat) (a_m_noted : Nat) (a_m_held : Nat) (a_m_few : Nat) (m_trace : Int64) (m_typed : Int32) (m_known : Int32) (m_many : Int32) (m_at : Int32) (m_sort : Int32) (m_start : Int32) (m_value : Int32) (m_draft : Nat → Int32) (m_told : Nat → Int32) (m_s : Nat → Int32) (m_kept : Nat → Int32) (out : Int32 × Int32 × (Nat → Int32) × (Nat → Int32) × (Nat → Int32)) (hf : f_X8_tells m_draft m_told m_s m_kept = some out) : Cv l yX8_tells wsX8_tells rmX8_tells D cI cZ cR [.ref a_m] [(a_m, .inr (8, [.long m_trace, .ref a_m_text, .int m_typed, .ref a_m_told, .ref a_m_draft, .ref a_m_s, .ref a_m_past, .int m_known, .ref a_m_images, .ref a_m_kept, .ref a_m_notes, .ref a_m_noted, .int m_many, .int m_at, .int m_sort, .int m_start, .int m_value, .ref a_m_held, .ref a_m_few])), (a_m_draft, .inl (cI, 33, .inl m_draft)), (a_m_told, .inl (cI, 33, .inl m_told)), (a_m_s, .inl (cI, 51, .inl m_s)), (a_m_kept, .inl (cZ, 2, .inl m_kept))] [(a_m, .inr (8, [.long m_trace, .ref a_m_text, .int m_typed, .ref a_m_told, .ref a_m_draft, .ref a_m_s, .ref a_m_past, .int out.1, .ref a_m_images, .ref a_m_kept, .ref a_m_notes, .ref a_m_noted, .int out.2.1, .int m_at, .int m_sort, .int m_start, .int m_value, .ref a_m_held, .ref a_m_few])), (a_m_draft, .inl (cI, 33, .inl m_draft)), (a_m_told, .inl (cI, 33, .inl out.2.2.1)), (a_m_s, .inl (cI, 51, .inl out.2.2.2.1)), (a_m_kept, .inl (cZ, 2, .inl out.2.2.2.2))] := by
  refine ent_v (cc := cX8_tells) (maxL := 2) (by decide) rfl (Nat.le_of_ble_eq_true rfl) ?_
  intro p e s m below meth c A Q hx hb hml hown hts hE hA hP hD hS hret ls hl
  have hown : s.vm.findClass RX8 = some m.cls := hown
  have hl : lv_has ls 2 [(0, .ref a_m)] := hl
  have fL13 := hts (.fieldLink RX8 13 "RainShelvesModel" "told" "[I") (List.mem_of_getElem? (i := 1) rfl)
  have fL16 := hts (.fieldLink RX8 16 "RainShelvesModel" "draft" "[I") (List.mem_of_getElem? (i := 2) rfl)
  have fL19 := hts (.fieldLink RX8 19 "RainShelvesModel" "s" "[I") (List.mem_of_getElem? (i := 3) rfl)
  have fL28 := hts (.fieldLink RX8 28 "RainShelvesModel" "kept" "[Z") (List.mem_of_getElem? (i := 6) rfl)
  have fL92 := hts (.fieldLink RX8 92 "RainShelvesModel" "known" "I") (List.mem_of_getElem? (i := 4) rfl)
  have fL95 := hts (.fieldLink RX8 95 "RainShelvesModel" "many" "I") (List.mem_of_getElem? (i := 5) rfl)
  unfold f_X8_tells at hf
  have J83 : ∀ (m_told_83 : Nat → Int32) (m_s_83 : Nat → Int32), f_X8_tells_J83 m_kept m_told_83 m_s_83 = some out → ∀ (H : Heap) (locs : List Loc) (ls : Array Slot), PD D A [(a_m, .inr (8, [.long m_trace, .ref a_m_text, .int m_typed, .ref a_m_told, .ref a_m_draft, .ref a_m_s, .ref a_m_past, .int m_known, .ref a_m_images, .ref a_m_kept, .ref a_m_notes, .ref a_m_noted, .int m_many, .int m_at, .int m_sort, .int m_start, .int m_value, .ref a_m_held, .ref a_m_few])), (a_m_draft, .inl (cI, 33, .inl m_draft)), (a_m_told, .inl (cI, 33, .inl m_told_83)), (a_m_s, .inl (cI, 51, .inl m_s_83)), (a_m_kept, .inl (cZ, 2, .inl m_kept))] H → va_S A s.heap H locs → lv_has ls 2 [(0, .ref a_m)] → W p l e rmX8_tells s m ([.ref a_m] : List Value).toArray below meth c H locs 0 0 Q (F0 m 83 ls []) := by
    intro m_told_83 m_s_83 hf H locs ls hPD hS hl
    obtain ⟨hP, hD⟩ := hPD
    unfold f_X8_tells_J83 at hf
    refine lv_aload_n hx hb dX8_tells_83 rfl (lv_at hl 0 rfl) ?_
    refine lv_iconst (v := 0) hx hb dX8_tells_84 (by decide) ?_
    refine va_put (D := D) (ci := 8) (v := .int 0) (ty := .int) (C := RX8) (T := TX8) (N := 19) hx hb hts hiX8_tells_8 tyX8 tyX8_ok nmX8 hown hE.1 hP hD hS 0 rfl rfl 7 (by decide) fL92 (fun _ h9 => h9) rfl (tyX8_ok 7 (by decide)) rfl rfl (Nat.le_of_ble_eq_true rfl) dX8_tells_85 (fun H locs hP hD hS => ?_)
    have hPD : PD D A [(a_m, .inr (8, [.long m_trace, .ref a_m_text, .int m_typed, .ref a_m_told, .ref a_m_draft, .ref a_m_s, .ref a_m_past, .int 0, .ref a_m_images, .ref a_m_kept, .ref a_m_notes, .ref a_m_noted, .int m_many, .int m_at, .int m_sort, .int m_start, .int m_value, .ref a_m_held, .ref a_m_few])), (a_m_draft, .inl (cI, 33, .inl m_draft)), (a_m_told, .inl (cI, 33, .inl m_told_83)), (a_m_s, .inl (cI, 51, .inl m_s_83)), (a_m_kept, .inl (cZ, 2, .inl m_kept))] H := ⟨hP, hD⟩
    obtain ⟨hP, hD⟩ := hPD
    refine lv_aload_n hx hb dX8_tells_88 rfl (lv_at hl 0 rfl) ?_
    refine lv_iconst (v := 0) hx hb dX8_tells_89 (by decide) ?_
    refine va_put (D := D) (ci := 8) (v := .int 0) (ty := .int) (C := RX8) (T := TX8) (N := 19) hx hb hts hiX8_tells_8 tyX8 tyX8_ok nmX8 hown hE.1 hP hD hS 0 rfl rfl 12 (by decide) fL95 (fun _ h9 => h9) rfl (tyX8_ok 12 (by decide)) rfl rfl (Nat.le_of_ble_eq_true rfl) dX8_tells_90 (fun H locs hP hD hS => ?_)
    have hPD : PD D A [(a_m, .inr (8, [.long m_trace, .ref a_m_text, .int m_typed, .ref a_m_told, .ref a_m_draft, .ref a_m_s, .ref a_m_past, .int 0, .ref a_m_images, .ref a_m_kept, .ref a_m_notes, .ref a_m_noted, .int 0, .int m_at, .int m_sort, .int m_start, .int m_value, .ref a_m_held, .ref a_m_few])), (a_m_draft, .inl (cI, 33, .inl m_draft)), (a_m_told, .inl (cI, 33, .inl m_told_83)), (a_m_s, .inl (cI, 51, .inl m_s_83)), (a_m_kept, .inl (cZ, 2, .inl m_kept))] H := ⟨hP, hD⟩
    obtain ⟨hP, hD⟩ := hPD
    refine lv_aload_n hx hb dX8_tells_93 rfl (lv_at hl 0 rfl) ?_
    refine va_get (D := D) (ci := 8) (v := .ref a_m_kept) (C := RX8) (T := TX8) (N := 19) hx hb hts hiX8_tells_8 hown hE.1 hP 0 rfl rfl 9 (by decide) fL28 (fun _ h9 => h9) rfl dX8_tells_94 ?_
    refine lv_iconst (v := 0) hx hb dX8_tells_97 (by decide) ?_
    refine lv_iconst (v := 0) hx hb dX8_tells_98 (by decide) ?_
    obtain ⟨hc1, hf⟩ := ck_some hf
    refine va_zast hx hb hE.1 hP hD hS 4 1 rfl rfl (ix_in hc1) dX8_tells_99 (fun H locs hP hD hS => ?_)
    have hPD : PD D A [(a_m, .inr (8, [.long m_trace, .ref a_m_text, .int m_typed, .ref a_m_told, .ref a_m_draft, .ref a_m_s, .ref a_m_past, .int 0, .ref a_m_images, .ref a_m_kept, .ref a_m_notes, .ref a_m_noted, .int 0, .int m_at, .int m_sort, .int m_start, .int m_value, .ref a_m_held, .ref a_m_few])), (a_m_draft, .inl (cI, 33, .inl m_draft)), (a_m_told, .inl (cI, 33, .inl m_told_83)), (a_m_s, .inl (cI, 51, .inl m_s_83)), (a_m_kept, .inl (cZ, 2, .inl (upd m_kept (0 : Int32).toNatClampNeg 0)))] H := ⟨hP, hD⟩
    obtain ⟨hP, hD⟩ := hPD
    refine lv_aload_n hx hb dX8_tells_100 rfl (lv_at hl 0 rfl) ?_
    refine va_get (D := D) (ci := 8) (v := .ref a_m_kept) (C := RX8) (T := TX8) (N := 19) hx hb hts hiX8_tells_8 hown hE.1 hP 0 rfl rfl 9 (by decide) fL28 (fun _ h9 => h9) rfl dX8_tells_101 ?_
    refine lv_iconst (v := 1) hx hb dX8_tells_104 (by decide) ?_
    refine lv_iconst (v := 0) hx hb dX8_tells_105 (by decide) ?_
    obtain ⟨hc2, hf⟩ := ck_some hf
    refine va_zast hx hb hE.1 hP hD hS 4 1 rfl rfl (ix_in hc2) dX8_tells_106 (fun H locs hP hD hS => ?_)
    have hPD : PD D A [(a_m, .inr (8, [.long m_trace, .ref a_m_text, .int m_typed, .ref a_m_told, .ref a_m_draft, .ref a_m_s, .ref a_m_past, .int 0, .ref a_m_images, .ref a_m_kept, .ref a_m_notes, .ref a_m_noted, .int 0, .int m_at, .int m_sort, .int m_start, .int m_value, .ref a_m_held, .ref a_m_few])), (a_m_draft, .inl (cI, 33, .inl m_draft)), (a_m_told, .inl (cI, 33, .inl m_told_83)), (a_m_s, .inl (cI, 51, .inl m_s_83)), (a_m_kept, .inl (cZ, 2, .inl (upd (upd m_kept (0 : Int32).toNatClampNeg 0) (1 : Int32).toNatClampNeg 0)))] H := ⟨hP, hD⟩
    obtain ⟨hP, hD⟩ := hPD
    have he := Option.some.inj hf
    subst he
    exact hret _ _ _ _ dX8_tells_107 hP hD hS
  have L49 : ∀ (m_told_49 : Nat → Int32) (n49 : Nat) (v1_49 : Int32) (m_s_49 : Nat → Int32), f_X8_tells_L49 m_kept m_told_49 n49 v1_49 m_s_49 = some out → ∀ (H : Heap) (locs : List Loc) (ls : Array Slot), PD D A [(a_m, .inr (8, [.long m_trace, .ref a_m_text, .int m_typed, .ref a_m_told, .ref a_m_draft, .ref a_m_s, .ref a_m_past, .int m_known, .ref a_m_images, .ref a_m_kept, .ref a_m_notes, .ref a_m_noted, .int m_many, .int m_at, .int m_sort, .int m_start, .int m_value, .ref a_m_held, .ref a_m_few])), (a_m_draft, .inl (cI, 33, .inl m_draft)), (a_m_told, .inl (cI, 33, .inl m_told_49)), (a_m_s, .inl (cI, 51, .inl m_s_49)), (a_m_kept, .inl (cZ, 2, .inl m_kept))] H → va_S A s.heap H locs → lv_has ls 2 [(0, .ref a_m), (1, .int v1_49)] → W p l e rmX8_tells s m ([.ref a_m] : List Value).toArray below meth c H locs 0 0 Q (F0 m 49 ls []) := by
    intro m_told_49 n49
    induction n49 with
    | zero => intro v1_49 m_s_49 hf; cases hf
    | succ n49 ih49 =>
      intro v1_49 m_s_49 hf H locs ls hPD hS hl
      obtain ⟨hP, hD⟩ := hPD
      have hf : f_X8_tells_B49 m_kept m_told_49 (f_X8_tells_L49 m_kept m_told_49 n49) v1_49 m_s_49 = some out := hf
      unfold f_X8_tells_B49 at hf
      refine lv_iload_n hx hb dX8_tells_49 rfl (lv_at hl 1 rfl) ?_
      refine lv_aload_n hx hb dX8_tells_50 rfl (lv_at hl 0 rfl) ?_
      refine va_get (D := D) (ci := 8) (v := .ref a_m_told) (C := RX8) (T := TX8) (N := 19) hx hb hts hiX8_tells_8 hown hE.1 hP 0 rfl rfl 3 (by decide) fL13 (fun _ h9 => h9) rfl dX8_tells_51 ?_
      refine lv_iconst (v := 0) hx hb dX8_tells_54 (by decide) ?_
      obtain ⟨hc3, hf⟩ := ck_some hf
      refine va_iald hx hb hE.1 hP 2 0 rfl rfl (ix_in hc3) dX8_tells_55 ?_
      refine lv_icmp_ge (tgt := 83) hx hb dX8_tells_56 (by decide) (fun hc4 => ?_) (fun hc4 => ?_)
      · have hf := if_t hf hc4
        exact J83 m_told_49 m_s_49 hf _ _ _ ⟨hP, hD⟩ hS (lv_sub hl [0] rfl)
      · have hf := if_f hf hc4
        refine lv_aload_n hx hb dX8_tells_59 rfl (lv_at hl 0 rfl) ?_
        refine va_get (D := D) (ci := 8) (v := .ref a_m_s) (C := RX8) (T := TX8) (N := 19) hx hb hts hiX8_tells_8 hown hE.1 hP 0 rfl rfl 5 (by decide) fL19 (fun _ h9 => h9) rfl dX8_tells_60 ?_
        refine lv_bipush (v := 8) hx hb dX8_tells_63 (by decide) ?_
        refine lv_iload_n hx hb dX8_tells_65 rfl (lv_at hl 1 rfl) ?_
        refine lv_imul hx hb dX8_tells_66 ?_
        refine lv_aload_n hx hb dX8_tells_67 rfl (lv_at hl 0 rfl) ?_
        refine va_get (D := D) (ci := 8) (v := .ref a_m_told) (C := RX8) (T := TX8) (N := 19) hx hb hts hiX8_tells_8 hown hE.1 hP 0 rfl rfl 3 (by decide) fL13 (fun _ h9 => h9) rfl dX8_tells_68 ?_
        refine lv_bipush (v := 12) hx hb dX8_tells_71 (by decide) ?_
        refine lv_iload_n hx hb dX8_tells_73 rfl (lv_at hl 1 rfl) ?_
        refine lv_iadd hx hb dX8_tells_74 ?_
        obtain ⟨hc5, hf⟩ := ck_some hf
        refine va_iald hx hb hE.1 hP 2 0 rfl rfl (ix_in hc5) dX8_tells_75 ?_
        obtain ⟨hc6, hf⟩ := ck_some hf
        refine va_iast hx hb hE.1 hP hD hS 3 0 rfl rfl (ix_in hc6) dX8_tells_76 (fun H locs hP hD hS => ?_)
        have hPD : PD D A [(a_m, .inr (8, [.long m_trace, .ref a_m_text, .int m_typed, .ref a_m_told, .ref a_m_draft, .ref a_m_s, .ref a_m_past, .int m_known, .ref a_m_images, .ref a_m_kept, .ref a_m_notes, .ref a_m_noted, .int m_many, .int m_at, .int m_sort, .int m_start, .int m_value, .ref a_m_held, .ref a_m_few])), (a_m_draft, .inl (cI, 33, .inl m_draft)), (a_m_told, .inl (cI, 33, .inl m_told_49)), (a_m_s, .inl (cI, 51, .inl (upd m_s_49 (8 * v1_49).toNatClampNeg (m_told_49 (12 + v1_49).toNatClampNeg)))), (a_m_kept, .inl (cZ, 2, .inl m_kept))] H := ⟨hP, hD⟩
        obtain ⟨hP, hD⟩ := hPD
        refine lv_iinc (v := (v1_49 + 1)) (lv' := [(1, .int (v1_49 + 1)), (0, .ref a_m)]) hx hb dX8_tells_77 hl (k := 1) rfl (ii_p1 _) (by decide) rfl (fun ls hl => ?_)
        refine lv_goto (tgt := 49) hx hb dX8_tells_80 (by decide) ?_
        exact ih49 (v1_49 + 1) (upd m_s_49 (8 * v1_49).toNatClampNeg (m_told_49 (12 + v1_49).toNatClampNeg)) hf _ _ _ ⟨hP, hD⟩ hS (lv_sub hl [1, 0] rfl)
  have L28 : ∀ (m_told_28 : Nat → Int32) (n28 : Nat) (v1_28 : Int32) (m_s_28 : Nat → Int32), f_X8_tells_L28 m_kept m_told_28 n28 v1_28 m_s_28 = some out → ∀ (H : Heap) (locs : List Loc) (ls : Array Slot), PD D A [(a_m, .inr (8, [.long m_trace, .ref a_m_text, .int m_typed, .ref a_m_told, .ref a_m_draft, .ref a_m_s, .ref a_m_past, .int m_known, .ref a_m_images, .ref a_m_kept, .ref a_m_notes, .ref a_m_noted, .int m_many, .int m_at, .int m_sort, .int m_start, .int m_value, .ref a_m_held, .ref a_m_few])), (a_m_draft, .inl (cI, 33, .inl m_draft)), (a_m_told, .inl (cI, 33, .inl m_told_28)), (a_m_s, .inl (cI, 51, .inl m_s_28)), (a_m_kept, .inl (cZ, 2, .inl m_kept))] H → va_S A s.heap H locs → lv_has ls 2 [(0, .ref a_m), (1, .int v1_28)] → W p l e rmX8_tells s m ([.ref a_m] : List Value).toArray below meth c H locs 0 0 Q (F0 m 28 ls []) := by
    intro m_told_28 n28
    induction n28 with
    | zero => intro v1_28 m_s_28 hf; cases hf
    | succ n28 ih28 =>
      intro v1_28 m_s_28 hf H locs ls hPD hS hl
      obtain ⟨hP, hD⟩ := hPD
      have hf : f_X8_tells_B28 m_kept m_told_28 (f_X8_tells_L28 m_kept m_told_28 n28) v1_28 m_s_28 = some out := hf
      unfold f_X8_tells_B28 at hf
      refine lv_iload_n hx hb dX8_tells_28 rfl (lv_at hl 1 rfl) ?_
      refine lv_bipush (v := 51) hx hb dX8_tells_29 (by decide) ?_
      refine lv_icmp_ge (tgt := 47) hx hb dX8_tells_31 (by decide) (fun hc7 => ?_) (fun hc7 => ?_)
      · have hf := if_t hf hc7
        refine lv_iconst (v := 0) hx hb dX8_tells_47 (by decide) ?_
        refine lv_istore_n (lv' := [(1, .int 0), (0, .ref a_m)]) hx hb dX8_tells_48 rfl hl (by decide) rfl (fun ls hl => ?_)
        exact L49 m_told_28 FU 0 m_s_28 hf _ _ _ ⟨hP, hD⟩ hS (lv_sub hl [1, 0] rfl)
      · have hf := if_f hf hc7
        refine lv_aload_n hx hb dX8_tells_34 rfl (lv_at hl 0 rfl) ?_
        refine va_get (D := D) (ci := 8) (v := .ref a_m_s) (C := RX8) (T := TX8) (N := 19) hx hb hts hiX8_tells_8 hown hE.1 hP 0 rfl rfl 5 (by decide) fL19 (fun _ h9 => h9) rfl dX8_tells_35 ?_
        refine lv_iload_n hx hb dX8_tells_38 rfl (lv_at hl 1 rfl) ?_
        refine lv_iconst (v := 0) hx hb dX8_tells_39 (by decide) ?_
        obtain ⟨hc8, hf⟩ := ck_some hf
        refine va_iast hx hb hE.1 hP hD hS 3 0 rfl rfl (ix_in hc8) dX8_tells_40 (fun H locs hP hD hS => ?_)
        have hPD : PD D A [(a_m, .inr (8, [.long m_trace, .ref a_m_text, .int m_typed, .ref a_m_told, .ref a_m_draft, .ref a_m_s, .ref a_m_past, .int m_known, .ref a_m_images, .ref a_m_kept, .ref a_m_notes, .ref a_m_noted, .int m_many, .int m_at, .int m_sort, .int m_start, .int m_value, .ref a_m_held, .ref a_m_few])), (a_m_draft, .inl (cI, 33, .inl m_draft)), (a_m_told, .inl (cI, 33, .inl m_told_28)), (a_m_s, .inl (cI, 51, .inl (upd m_s_28 v1_28.toNatClampNeg 0))), (a_m_kept, .inl (cZ, 2, .inl m_kept))] H := ⟨hP, hD⟩
        obtain ⟨hP, hD⟩ := hPD
        refine lv_iinc (v := (v1_28 + 1)) (lv' := [(1, .int (v1_28 + 1)), (0, .ref a_m)]) hx hb dX8_tells_41 hl (k := 1) rfl (ii_p1 _) (by decide) rfl (fun ls hl => ?_)
        refine lv_goto (tgt := 28) hx hb dX8_tells_44 (by decide) ?_
        exact ih28 (v1_28 + 1) (upd m_s_28 v1_28.toNatClampNeg 0) hf _ _ _ ⟨hP, hD⟩ hS (lv_sub hl [1, 0] rfl)
  have L2 : ∀ (n2 : Nat) (v1_2 : Int32) (m_told_2 : Nat → Int32), f_X8_tells_L2 m_draft m_s m_kept n2 v1_2 m_told_2 = some out → ∀ (H : Heap) (locs : List Loc) (ls : Array Slot), PD D A [(a_m, .inr (8, [.long m_trace, .ref a_m_text, .int m_typed, .ref a_m_told, .ref a_m_draft, .ref a_m_s, .ref a_m_past, .int m_known, .ref a_m_images, .ref a_m_kept, .ref a_m_notes, .ref a_m_noted, .int m_many, .int m_at, .int m_sort, .int m_start, .int m_value, .ref a_m_held, .ref a_m_few])), (a_m_draft, .inl (cI, 33, .inl m_draft)), (a_m_told, .inl (cI, 33, .inl m_told_2)), (a_m_s, .inl (cI, 51, .inl m_s)), (a_m_kept, .inl (cZ, 2, .inl m_kept))] H → va_S A s.heap H locs → lv_has ls 2 [(0, .ref a_m), (1, .int v1_2)] → W p l e rmX8_tells s m ([.ref a_m] : List Value).toArray below meth c H locs 0 0 Q (F0 m 2 ls []) := by
    intro  n2
    induction n2 with
    | zero => intro v1_2 m_told_2 hf; cases hf
    | succ n2 ih2 =>
      intro v1_2 m_told_2 hf H locs ls hPD hS hl
      obtain ⟨hP, hD⟩ := hPD
      have hf : f_X8_tells_B2 m_draft m_s m_kept (f_X8_tells_L2 m_draft m_s m_kept n2) v1_2 m_told_2 = some out := hf
      unfold f_X8_tells_B2 at hf
      refine lv_iload_n hx hb dX8_tells_2 rfl (lv_at hl 1 rfl) ?_
      refine lv_bipush (v := 33) hx hb dX8_tells_3 (by decide) ?_
      refine lv_icmp_ge (tgt := 26) hx hb dX8_tells_5 (by decide) (fun hc9 => ?_) (fun hc9 => ?_)
      · have hf := if_t hf hc9
        refine lv_iconst (v := 0) hx hb dX8_tells_26 (by decide) ?_
        refine lv_istore_n (lv' := [(1, .int 0), (0, .ref a_m)]) hx hb dX8_tells_27 rfl hl (by decide) rfl (fun ls hl => ?_)
        exact L28 m_told_2 FU 0 m_s hf _ _ _ ⟨hP, hD⟩ hS (lv_sub hl [1, 0] rfl)
      · have hf := if_f hf hc9
        refine lv_aload_n hx hb dX8_tells_8 rfl (lv_at hl 0 rfl) ?_
        refine va_get (D := D) (ci := 8) (v := .ref a_m_told) (C := RX8) (T := TX8) (N := 19) hx hb hts hiX8_tells_8 hown hE.1 hP 0 rfl rfl 3 (by decide) fL13 (fun _ h9 => h9) rfl dX8_tells_9 ?_
        refine lv_iload_n hx hb dX8_tells_12 rfl (lv_at hl 1 rfl) ?_
        refine lv_aload_n hx hb dX8_tells_13 rfl (lv_at hl 0 rfl) ?_
        refine va_get (D := D) (ci := 8) (v := .ref a_m_draft) (C := RX8) (T := TX8) (N := 19) hx hb hts hiX8_tells_8 hown hE.1 hP 0 rfl rfl 4 (by decide) fL16 (fun _ h9 => h9) rfl dX8_tells_14 ?_
        refine lv_iload_n hx hb dX8_tells_17 rfl (lv_at hl 1 rfl) ?_
        obtain ⟨hc10, hf⟩ := ck_some hf
        refine va_iald hx hb hE.1 hP 1 0 rfl rfl (ix_in hc10) dX8_tells_18 ?_
        obtain ⟨hc11, hf⟩ := ck_some hf
        refine va_iast hx hb hE.1 hP hD hS 2 0 rfl rfl (ix_in hc11) dX8_tells_19 (fun H locs hP hD hS => ?_)
        have hPD : PD D A [(a_m, .inr (8, [.long m_trace, .ref a_m_text, .int m_typed, .ref a_m_told, .ref a_m_draft, .ref a_m_s, .ref a_m_past, .int m_known, .ref a_m_images, .ref a_m_kept, .ref a_m_notes, .ref a_m_noted, .int m_many, .int m_at, .int m_sort, .int m_start, .int m_value, .ref a_m_held, .ref a_m_few])), (a_m_draft, .inl (cI, 33, .inl m_draft)), (a_m_told, .inl (cI, 33, .inl (upd m_told_2 v1_2.toNatClampNeg (m_draft v1_2.toNatClampNeg)))), (a_m_s, .inl (cI, 51, .inl m_s)), (a_m_kept, .inl (cZ, 2, .inl m_kept))] H := ⟨hP, hD⟩
        obtain ⟨hP, hD⟩ := hPD
        refine lv_iinc (v := (v1_2 + 1)) (lv' := [(1, .int (v1_2 + 1)), (0, .ref a_m)]) hx hb dX8_tells_20 hl (k := 1) rfl (ii_p1 _) (by decide) rfl (fun ls hl => ?_)
        refine lv_goto (tgt := 2) hx hb dX8_tells_23 (by decide) ?_
        exact ih2 (v1_2 + 1) (upd m_told_2 v1_2.toNatClampNeg (m_draft v1_2.toNatClampNeg)) hf _ _ _ ⟨hP, hD⟩ hS (lv_sub hl [1, 0] rfl)
  refine lv_iconst (v := 0) hx hb dX8_tells_0 (by decide) ?_
  refine lv_istore_n (lv' := [(1, .int 0), (0, .ref a_m)]) hx hb dX8_tells_1 rfl hl (by decide) rfl (fun ls hl => ?_)
  exact L2  FU 0 m_told hf _ _ _ ⟨hP, hD⟩ hS (lv_sub hl [1, 0] rfl)
abbrev rmX8_house : Room := { frames := 7, cells := 0, slots := 0, locals := 153 }
theorem hiX8_house_8 : ∀ w ∈ wsX80, w ∈ wsX8_house := fun w h => (goodIn_r (big := wsX8_house) wsX80 [48, 49, 50, 51, 52, 53, 54, 55, 56, 57, 58, 59, 60, 61, 62, 63, 64, 65, 66] rfl (by decide +kernel) w h).1
theorem cw_X8_house_X8_reads_44 {s : State} {args : Array Value} (hts : ∀ x ∈ wsX8_house, x.before args s = true) : CallW rmX8_house s args RX8 RX8 44 yX8_reads cX8_reads 2 (some .boolean) wsX8_reads rmX8_reads 0 0 0 := cwV 0 hts gX8_house_X8_reads rfl rfl rfl (by decide +kernel) ⟨Nat.le_of_ble_eq_true rfl, Nat.le_of_ble_eq_true rfl⟩
theorem cw_X8_house_X8_tells_48 {s : State} {args : Array Value} (hts : ∀ x ∈ wsX8_house, x.before args s = true) : CallW rmX8_house s args RX8 RX8 48 yX8_tells cX8_tells 2 none wsX8_tells rmX8_tells 0 0 0 := cwV 0 hts gX8_house_X8_tells rfl rfl rfl (by decide +kernel) ⟨Nat.le_of_ble_eq_true rfl, Nat.le_of_ble_eq_true rfl⟩
set_option maxRecDepth 100000 in
set_option maxHeartbeats 4000000 in
theorem c_X8_house (l : Launch) (D : va_G) (cI cZ cR : ClassId) (a_m : Nat) (a_m_draft : Nat) (a_m_text : Nat) (a_m_told : Nat) (a_m_s : Nat) (a_m_kept : Nat) (a_m_past : Nat) (a_m_images : Nat) (a_m_notes : Nat) (a_m_noted : Nat) (a_m_held : Nat) (a_m_few : Nat) (m_trace : Int64) (m_typed : Int32) (m_known : Int32) (m_many : Int32) (m_at : Int32) (m_sort : Int32) (m_start : Int32) (m_value : Int32) (m_draft : Nat → Int32) (m_text : Nat → Int32) (m_told : Nat → Int32) (m_s : Nat → Int32) (m_kept : Nat → Int32) (out : Int32 × Int32 × Int32 × Int32 × Int32 × Int32 × Int32 × Int32 × (Nat → Int32) × (Nat → Int32) × (Nat → Int32) × (Nat → Int32)) (hf : f_X8_house m_typed m_known m_many m_draft m_text m_told m_s m_kept = some out) : Ci l yX8_house wsX8_house rmX8_house D cI cZ cR [.ref a_m] [(a_m, .inr (8, [.long m_trace, .ref a_m_text, .int m_typed, .ref a_m_told, .ref a_m_draft, .ref a_m_s, .ref a_m_past, .int m_known, .ref a_m_images, .ref a_m_kept, .ref a_m_notes, .ref a_m_noted, .int m_many, .int m_at, .int m_sort, .int m_start, .int m_value, .ref a_m_held, .ref a_m_few])), (a_m_draft, .inl (cI, 33, .inl m_draft)), (a_m_text, .inl (cI, 200, .inl m_text)), (a_m_told, .inl (cI, 33, .inl m_told)), (a_m_s, .inl (cI, 51, .inl m_s)), (a_m_kept, .inl (cZ, 2, .inl m_kept))] out.1 [(a_m, .inr (8, [.long m_trace, .ref a_m_text, .int out.2.1, .ref a_m_told, .ref a_m_draft, .ref a_m_s, .ref a_m_past, .int out.2.2.1, .ref a_m_images, .ref a_m_kept, .ref a_m_notes, .ref a_m_noted, .int out.2.2.2.1, .int out.2.2.2.2.1, .int out.2.2.2.2.2.1, .int out.2.2.2.2.2.2.1, .int out.2.2.2.2.2.2.2.1, .ref a_m_held, .ref a_m_few])), (a_m_draft, .inl (cI, 33, .inl out.2.2.2.2.2.2.2.2.1)), (a_m_text, .inl (cI, 200, .inl m_text)), (a_m_told, .inl (cI, 33, .inl out.2.2.2.2.2.2.2.2.2.1)), (a_m_s, .inl (cI, 51, .inl out.2.2.2.2.2.2.2.2.2.2.1)), (a_m_kept, .inl (cZ, 2, .inl out.2.2.2.2.2.2.2.2.2.2.2))] := by
  refine ent_i (cc := cX8_house) (maxL := 1) .int (by decide) rfl (Nat.le_of_ble_eq_true rfl) ?_
  intro p e s m below meth c A Q hx hb hml hown hts hE hA hP hD hS hret ls hl
  have hown : s.vm.findClass RX8 = some m.cls := hown
  have hl : lv_has ls 1 [(0, .ref a_m)] := hl
  have fL13 := hts (.fieldLink RX8 13 "RainShelvesModel" "told" "[I") (List.mem_of_getElem? (i := 3) rfl)
  have fL55 := hts (.fieldLink RX8 55 "RainShelvesModel" "typed" "I") (List.mem_of_getElem? (i := 2) rfl)
  have fL66 := hts (.fieldLink RX8 66 "RainShelvesModel" "start" "I") (List.mem_of_getElem? (i := 1) rfl)
  unfold f_X8_house at hf
  refine lv_aload_n hx hb dX8_house_0 rfl (lv_at hl 0 rfl) ?_
  obtain ⟨u1, hu1, hf⟩ := bd_some hf
  refine cl_iV (As := []) (rest := []) ⟨hx, hb, hml, hown, hts⟩ (c_X8_reads l D cI cZ cR a_m a_m_draft a_m_text a_m_told a_m_s a_m_past a_m_images a_m_kept a_m_notes a_m_noted a_m_held a_m_few m_trace m_typed m_known m_many m_at m_sort m_start m_value m_draft m_text  u1 hu1) (cw_X8_house_X8_reads_44 hts) hE hP hD hS hA [0, 1, 2] rfl rfl [a_m, a_m_draft, a_m_text] rfl rfl 0 8 rfl rfl rfl hl.1 rfl (Nat.le_of_ble_eq_true rfl) dX8_house_1 ⟨Nat.zero_le _, Nat.zero_le _⟩ (fun H locs hP hD hS => ?_)
  have hPD : PD D A [(a_m, .inr (8, [.long m_trace, .ref a_m_text, .int m_typed, .ref a_m_told, .ref a_m_draft, .ref a_m_s, .ref a_m_past, .int m_known, .ref a_m_images, .ref a_m_kept, .ref a_m_notes, .ref a_m_noted, .int m_many, .int u1.2.1, .int u1.2.2.1, .int u1.2.2.2.1, .int u1.2.2.2.2.1, .ref a_m_held, .ref a_m_few])), (a_m_draft, .inl (cI, 33, .inl u1.2.2.2.2.2)), (a_m_text, .inl (cI, 200, .inl m_text)), (a_m_told, .inl (cI, 33, .inl m_told)), (a_m_s, .inl (cI, 51, .inl m_s)), (a_m_kept, .inl (cZ, 2, .inl m_kept))] H := ⟨hP, hD⟩
  obtain ⟨hP, hD⟩ := hPD
  refine lv_if_ne (tgt := 15) hx hb dX8_house_4 (by decide) (fun hc1 => ?_) (fun hc1 => ?_)
  · have hf := if_f hf hc1
    refine lv_aload_n hx hb dX8_house_15 rfl (lv_at hl 0 rfl) ?_
    obtain ⟨u2, hu2, hf⟩ := bd_some hf
    refine cl_vV (As := []) (rest := []) ⟨hx, hb, hml, hown, hts⟩ (c_X8_tells l D cI cZ cR a_m a_m_draft a_m_told a_m_s a_m_kept a_m_text a_m_past a_m_images a_m_notes a_m_noted a_m_held a_m_few m_trace m_typed m_known m_many u1.2.1 u1.2.2.1 u1.2.2.2.1 u1.2.2.2.2.1 u1.2.2.2.2.2 m_told m_s m_kept  u2 hu2) (cw_X8_house_X8_tells_48 hts) hE hP hD hS hA [0, 1, 3, 4, 5] rfl rfl [a_m, a_m_draft, a_m_told, a_m_s, a_m_kept] rfl rfl 0 8 rfl rfl rfl hl.1 rfl (Nat.le_of_ble_eq_true rfl) dX8_house_16 ⟨Nat.zero_le _, Nat.zero_le _⟩ (fun H locs hP hD hS => ?_)
    have hPD : PD D A [(a_m, .inr (8, [.long m_trace, .ref a_m_text, .int m_typed, .ref a_m_told, .ref a_m_draft, .ref a_m_s, .ref a_m_past, .int u2.1, .ref a_m_images, .ref a_m_kept, .ref a_m_notes, .ref a_m_noted, .int u2.2.1, .int u1.2.1, .int u1.2.2.1, .int u1.2.2.2.1, .int u1.2.2.2.2.1, .ref a_m_held, .ref a_m_few])), (a_m_draft, .inl (cI, 33, .inl u1.2.2.2.2.2)), (a_m_text, .inl (cI, 200, .inl m_text)), (a_m_told, .inl (cI, 33, .inl u2.2.2.1)), (a_m_s, .inl (cI, 51, .inl u2.2.2.2.1)), (a_m_kept, .inl (cZ, 2, .inl u2.2.2.2.2))] H := ⟨hP, hD⟩
    obtain ⟨hP, hD⟩ := hPD
    refine lv_aload_n hx hb dX8_house_19 rfl (lv_at hl 0 rfl) ?_
    refine lv_iconst (v := 0) hx hb dX8_house_20 (by decide) ?_
    refine va_put (D := D) (ci := 8) (v := .int 0) (ty := .int) (C := RX8) (T := TX8) (N := 19) hx hb hts hiX8_house_8 tyX8 tyX8_ok nmX8 hown hE.1 hP hD hS 0 rfl rfl 2 (by decide) fL55 (fun _ h9 => h9) rfl (tyX8_ok 2 (by decide)) rfl rfl (Nat.le_of_ble_eq_true rfl) dX8_house_21 (fun H locs hP hD hS => ?_)
    have hPD : PD D A [(a_m, .inr (8, [.long m_trace, .ref a_m_text, .int 0, .ref a_m_told, .ref a_m_draft, .ref a_m_s, .ref a_m_past, .int u2.1, .ref a_m_images, .ref a_m_kept, .ref a_m_notes, .ref a_m_noted, .int u2.2.1, .int u1.2.1, .int u1.2.2.1, .int u1.2.2.2.1, .int u1.2.2.2.2.1, .ref a_m_held, .ref a_m_few])), (a_m_draft, .inl (cI, 33, .inl u1.2.2.2.2.2)), (a_m_text, .inl (cI, 200, .inl m_text)), (a_m_told, .inl (cI, 33, .inl u2.2.2.1)), (a_m_s, .inl (cI, 51, .inl u2.2.2.2.1)), (a_m_kept, .inl (cZ, 2, .inl u2.2.2.2.2))] H := ⟨hP, hD⟩
    obtain ⟨hP, hD⟩ := hPD
    refine lv_aload_n hx hb dX8_house_24 rfl (lv_at hl 0 rfl) ?_
    refine va_get (D := D) (ci := 8) (v := .ref a_m_told) (C := RX8) (T := TX8) (N := 19) hx hb hts hiX8_house_8 hown hE.1 hP 0 rfl rfl 3 (by decide) fL13 (fun _ h9 => h9) rfl dX8_house_25 ?_
    refine lv_iconst (v := 3) hx hb dX8_house_28 (by decide) ?_
    obtain ⟨hc2, hf⟩ := ck_some hf
    refine va_iald hx hb hE.1 hP 3 0 rfl rfl (ix_in hc2) dX8_house_29 ?_
    have he := Option.some.inj hf
    subst he
    exact hret _ _ _ _ dX8_house_30 rfl hP hD hS
  · have hf := if_t hf hc1
    refine lv_bipush (v := (-10)) hx hb dX8_house_7 (by decide) ?_
    refine lv_aload_n hx hb dX8_house_9 rfl (lv_at hl 0 rfl) ?_
    refine va_get (D := D) (ci := 8) (v := .int u1.2.2.2.1) (C := RX8) (T := TX8) (N := 19) hx hb hts hiX8_house_8 hown hE.1 hP 0 rfl rfl 15 (by decide) fL66 (fun _ h9 => h9) rfl dX8_house_10 ?_
    refine lv_isub hx hb dX8_house_13 ?_
    have he := Option.some.inj hf
    subst he
    exact hret _ _ _ _ dX8_house_14 rfl hP hD hS
abbrev rmX8_full : Room := { frames := 0, cells := 0, slots := 0, locals := 0 }
theorem hiX8_full_8 : ∀ w ∈ wsX80, w ∈ wsX8_full := fun w h => (goodIn_r (big := wsX8_full) wsX80 [2, 3, 4, 5, 6, 7, 8, 9, 10, 11, 12, 13, 14, 15, 16, 17, 18, 19, 20] rfl (by decide +kernel) w h).1
set_option maxRecDepth 100000 in
set_option maxHeartbeats 4000000 in
theorem c_X8_full (l : Launch) (D : va_G) (cI cZ cR : ClassId) (a_m : Nat) (a_m_s : Nat) (a_m_text : Nat) (a_m_told : Nat) (a_m_draft : Nat) (a_m_past : Nat) (a_m_images : Nat) (a_m_kept : Nat) (a_m_notes : Nat) (a_m_noted : Nat) (a_m_held : Nat) (a_m_few : Nat) (m_trace : Int64) (m_typed : Int32) (m_known : Int32) (m_many : Int32) (m_at : Int32) (m_sort : Int32) (m_start : Int32) (m_value : Int32) (m_s : Nat → Int32) (v1 : Int32) (out : Int32) (hf : f_X8_full m_s v1 = some out) : Ci l yX8_full wsX8_full rmX8_full D cI cZ cR [.ref a_m, .int v1] [(a_m, .inr (8, [.long m_trace, .ref a_m_text, .int m_typed, .ref a_m_told, .ref a_m_draft, .ref a_m_s, .ref a_m_past, .int m_known, .ref a_m_images, .ref a_m_kept, .ref a_m_notes, .ref a_m_noted, .int m_many, .int m_at, .int m_sort, .int m_start, .int m_value, .ref a_m_held, .ref a_m_few])), (a_m_s, .inl (cI, 51, .inl m_s))] out [(a_m, .inr (8, [.long m_trace, .ref a_m_text, .int m_typed, .ref a_m_told, .ref a_m_draft, .ref a_m_s, .ref a_m_past, .int m_known, .ref a_m_images, .ref a_m_kept, .ref a_m_notes, .ref a_m_noted, .int m_many, .int m_at, .int m_sort, .int m_start, .int m_value, .ref a_m_held, .ref a_m_few])), (a_m_s, .inl (cI, 51, .inl m_s))] := by
  refine ent_i (cc := cX8_full) (maxL := 4) .int (by decide) rfl (Nat.le_of_ble_eq_true rfl) ?_
  intro p e s m below meth c A Q hx hb hml hown hts hE hA hP hD hS hret ls hl
  have hown : s.vm.findClass RX8 = some m.cls := hown
  have hl : lv_has ls 4 [(0, .ref a_m), (1, .int v1)] := hl
  have fL19 := hts (.fieldLink RX8 19 "RainShelvesModel" "s" "[I") (List.mem_of_getElem? (i := 1) rfl)
  unfold f_X8_full at hf
  have L4 : ∀ (n4 : Nat) (v2_4 : Int32) (v3_4 : Int32), f_X8_full_L4 m_s v1 n4 v2_4 v3_4 = some out → ∀ (H : Heap) (locs : List Loc) (ls : Array Slot), PD D A [(a_m, .inr (8, [.long m_trace, .ref a_m_text, .int m_typed, .ref a_m_told, .ref a_m_draft, .ref a_m_s, .ref a_m_past, .int m_known, .ref a_m_images, .ref a_m_kept, .ref a_m_notes, .ref a_m_noted, .int m_many, .int m_at, .int m_sort, .int m_start, .int m_value, .ref a_m_held, .ref a_m_few])), (a_m_s, .inl (cI, 51, .inl m_s))] H → va_S A s.heap H locs → lv_has ls 4 [(0, .ref a_m), (1, .int v1), (2, .int v2_4), (3, .int v3_4)] → W p l e rmX8_full s m ([.ref a_m, .int v1] : List Value).toArray below meth c H locs 0 0 Q (F0 m 4 ls []) := by
    intro  n4
    induction n4 with
    | zero => intro v2_4 v3_4 hf; cases hf
    | succ n4 ih4 =>
      intro v2_4 v3_4 hf H locs ls hPD hS hl
      obtain ⟨hP, hD⟩ := hPD
      have hf : f_X8_full_B4 m_s v1 (f_X8_full_L4 m_s v1 n4) v2_4 v3_4 = some out := hf
      unfold f_X8_full_B4 at hf
      refine lv_iload_n hx hb dX8_full_4 rfl (lv_at hl 3 rfl) ?_
      refine lv_bipush (v := 7) hx hb dX8_full_5 (by decide) ?_
      refine lv_icmp_ge (tgt := 30) hx hb dX8_full_7 (by decide) (fun hc1 => ?_) (fun hc1 => ?_)
      · have hf := if_t hf hc1
        refine lv_iload_n hx hb dX8_full_30 rfl (lv_at hl 2 rfl) ?_
        have he := Option.some.inj hf
        subst he
        exact hret _ _ _ _ dX8_full_31 rfl hP hD hS
      · have hf := if_f hf hc1
        refine lv_iload_n hx hb dX8_full_10 rfl (lv_at hl 2 rfl) ?_
        refine lv_aload_n hx hb dX8_full_11 rfl (lv_at hl 0 rfl) ?_
        refine va_get (D := D) (ci := 8) (v := .ref a_m_s) (C := RX8) (T := TX8) (N := 19) hx hb hts hiX8_full_8 hown hE.1 hP 0 rfl rfl 5 (by decide) fL19 (fun _ h9 => h9) rfl dX8_full_12 ?_
        refine lv_bipush (v := 7) hx hb dX8_full_15 (by decide) ?_
        refine lv_iload_n hx hb dX8_full_17 rfl (lv_at hl 1 rfl) ?_
        refine lv_imul hx hb dX8_full_18 ?_
        refine lv_iload_n hx hb dX8_full_19 rfl (lv_at hl 3 rfl) ?_
        refine lv_iadd hx hb dX8_full_20 ?_
        obtain ⟨hc2, hf⟩ := ck_some hf
        refine va_iald hx hb hE.1 hP 1 0 rfl rfl (ix_in hc2) dX8_full_21 ?_
        refine lv_iadd hx hb dX8_full_22 ?_
        refine lv_istore_n (lv' := [(2, .int (v2_4 + (m_s ((7 * v1) + v3_4).toNatClampNeg))), (0, .ref a_m), (1, .int v1), (3, .int v3_4)]) hx hb dX8_full_23 rfl hl (by decide) rfl (fun ls hl => ?_)
        refine lv_iinc (v := (v3_4 + 1)) (lv' := [(3, .int (v3_4 + 1)), (2, .int (v2_4 + (m_s ((7 * v1) + v3_4).toNatClampNeg))), (0, .ref a_m), (1, .int v1)]) hx hb dX8_full_24 hl (k := 3) rfl (ii_p1 _) (by decide) rfl (fun ls hl => ?_)
        refine lv_goto (tgt := 4) hx hb dX8_full_27 (by decide) ?_
        exact ih4 (v2_4 + (m_s ((7 * v1) + v3_4).toNatClampNeg)) (v3_4 + 1) hf _ _ _ ⟨hP, hD⟩ hS (lv_sub hl [2, 3, 1, 0] rfl)
  refine lv_iconst (v := 0) hx hb dX8_full_0 (by decide) ?_
  refine lv_istore_n (lv' := [(2, .int 0), (0, .ref a_m), (1, .int v1)]) hx hb dX8_full_1 rfl hl (by decide) rfl (fun ls hl => ?_)
  refine lv_iconst (v := 0) hx hb dX8_full_2 (by decide) ?_
  refine lv_istore_n (lv' := [(3, .int 0), (2, .int 0), (0, .ref a_m), (1, .int v1)]) hx hb dX8_full_3 rfl hl (by decide) rfl (fun ls hl => ?_)
  exact L4  FU 0 0 hf _ _ _ ⟨hP, hD⟩ hS (lv_sub hl [2, 3, 1, 0] rfl)
abbrev rmX8_isRead : Room := { frames := 1, cells := 0, slots := 0, locals := 23 }
theorem hiX8_isRead_8 : ∀ w ∈ wsX80, w ∈ wsX8_isRead := fun w h => (goodIn_r (big := wsX8_isRead) wsX80 [8, 9, 10, 11, 12, 13, 14, 15, 16, 17, 18, 19, 20, 21, 22, 23, 24, 25, 26] rfl (by decide +kernel) w h).1
theorem cw_X8_isRead_X8_full_98 {s : State} {args : Array Value} (hts : ∀ x ∈ wsX8_isRead, x.before args s = true) : CallW rmX8_isRead s args RX8 RX8 98 yX8_full cX8_full 4 (some .int) wsX8_full rmX8_full 0 0 1 := cwV 1 hts gX8_isRead_X8_full rfl rfl rfl (by decide +kernel) ⟨Nat.le_of_ble_eq_true rfl, Nat.le_of_ble_eq_true rfl⟩
set_option maxRecDepth 100000 in
set_option maxHeartbeats 4000000 in
theorem c_X8_isRead (l : Launch) (D : va_G) (cI cZ cR : ClassId) (a_m : Nat) (a_m_s : Nat) (a_m_told : Nat) (a_m_text : Nat) (a_m_draft : Nat) (a_m_past : Nat) (a_m_images : Nat) (a_m_kept : Nat) (a_m_notes : Nat) (a_m_noted : Nat) (a_m_held : Nat) (a_m_few : Nat) (m_trace : Int64) (m_typed : Int32) (m_known : Int32) (m_many : Int32) (m_at : Int32) (m_sort : Int32) (m_start : Int32) (m_value : Int32) (m_s : Nat → Int32) (m_told : Nat → Int32) (v1 : Int32) (out : Int32) (hf : f_X8_isRead m_s m_told v1 = some out) : Ci l yX8_isRead wsX8_isRead rmX8_isRead D cI cZ cR [.ref a_m, .int v1] [(a_m, .inr (8, [.long m_trace, .ref a_m_text, .int m_typed, .ref a_m_told, .ref a_m_draft, .ref a_m_s, .ref a_m_past, .int m_known, .ref a_m_images, .ref a_m_kept, .ref a_m_notes, .ref a_m_noted, .int m_many, .int m_at, .int m_sort, .int m_start, .int m_value, .ref a_m_held, .ref a_m_few])), (a_m_s, .inl (cI, 51, .inl m_s)), (a_m_told, .inl (cI, 33, .inl m_told))] out [(a_m, .inr (8, [.long m_trace, .ref a_m_text, .int m_typed, .ref a_m_told, .ref a_m_draft, .ref a_m_s, .ref a_m_past, .int m_known, .ref a_m_images, .ref a_m_kept, .ref a_m_notes, .ref a_m_noted, .int m_many, .int m_at, .int m_sort, .int m_start, .int m_value, .ref a_m_held, .ref a_m_few])), (a_m_s, .inl (cI, 51, .inl m_s)), (a_m_told, .inl (cI, 33, .inl m_told))] := by
  refine ent_i (cc := cX8_isRead) (maxL := 2) .boolean (by decide) rfl (Nat.le_of_ble_eq_true rfl) ?_
  intro p e s m below meth c A Q hx hb hml hown hts hE hA hP hD hS hret ls hl
  have hown : s.vm.findClass RX8 = some m.cls := hown
  have hl : lv_has ls 2 [(0, .ref a_m), (1, .int v1)] := hl
  have fL13 := hts (.fieldLink RX8 13 "RainShelvesModel" "told" "[I") (List.mem_of_getElem? (i := 2) rfl)
  have fL19 := hts (.fieldLink RX8 19 "RainShelvesModel" "s" "[I") (List.mem_of_getElem? (i := 1) rfl)
  unfold f_X8_isRead at hf
  refine lv_aload_n hx hb dX8_isRead_0 rfl (lv_at hl 0 rfl) ?_
  refine va_get (D := D) (ci := 8) (v := .ref a_m_s) (C := RX8) (T := TX8) (N := 19) hx hb hts hiX8_isRead_8 hown hE.1 hP 0 rfl rfl 5 (by decide) fL19 (fun _ h9 => h9) rfl dX8_isRead_1 ?_
  refine lv_bipush (v := 8) hx hb dX8_isRead_4 (by decide) ?_
  refine lv_iload_n hx hb dX8_isRead_6 rfl (lv_at hl 1 rfl) ?_
  refine lv_imul hx hb dX8_isRead_7 ?_
  obtain ⟨hc1, hf⟩ := ck_some hf
  refine va_iald hx hb hE.1 hP 1 0 rfl rfl (ix_in hc1) dX8_isRead_8 ?_
  refine lv_aload_n hx hb dX8_isRead_9 rfl (lv_at hl 0 rfl) ?_
  refine va_get (D := D) (ci := 8) (v := .ref a_m_told) (C := RX8) (T := TX8) (N := 19) hx hb hts hiX8_isRead_8 hown hE.1 hP 0 rfl rfl 3 (by decide) fL13 (fun _ h9 => h9) rfl dX8_isRead_10 ?_
  refine lv_iconst (v := 1) hx hb dX8_isRead_13 (by decide) ?_
  obtain ⟨hc2, hf⟩ := ck_some hf
  refine va_iald hx hb hE.1 hP 2 0 rfl rfl (ix_in hc2) dX8_isRead_14 ?_
  refine lv_icmp_lt (tgt := 39) hx hb dX8_isRead_15 (by decide) (fun hc3 => ?_) (fun hc3 => ?_)
  · have hf := if_t hf hc3
    refine lv_iconst (v := 0) hx hb dX8_isRead_39 (by decide) ?_
    have he := Option.some.inj hf
    subst he
    exact hret _ _ _ _ dX8_isRead_40 bn0 hP hD hS
  · have hf := if_f hf hc3
    refine lv_aload_n hx hb dX8_isRead_18 rfl (lv_at hl 0 rfl) ?_
    refine lv_iload_n hx hb dX8_isRead_19 rfl (lv_at hl 1 rfl) ?_
    obtain ⟨u1, hu1, hf⟩ := bd_some hf
    refine cl_iV (As := [.int v1]) (rest := []) ⟨hx, hb, hml, hown, hts⟩ (c_X8_full l D cI cZ cR a_m a_m_s a_m_text a_m_told a_m_draft a_m_past a_m_images a_m_kept a_m_notes a_m_noted a_m_held a_m_few m_trace m_typed m_known m_many m_at m_sort m_start m_value m_s v1 u1 hu1) (cw_X8_isRead_X8_full_98 hts) hE hP hD hS hA [0, 1] rfl rfl [a_m, a_m_s] rfl rfl 0 8 rfl rfl rfl hl.1 rfl (Nat.le_of_ble_eq_true rfl) dX8_isRead_20 ⟨Nat.zero_le _, Nat.zero_le _⟩ (fun H locs hP hD hS => ?_)
    have hPD : PD D A [(a_m, .inr (8, [.long m_trace, .ref a_m_text, .int m_typed, .ref a_m_told, .ref a_m_draft, .ref a_m_s, .ref a_m_past, .int m_known, .ref a_m_images, .ref a_m_kept, .ref a_m_notes, .ref a_m_noted, .int m_many, .int m_at, .int m_sort, .int m_start, .int m_value, .ref a_m_held, .ref a_m_few])), (a_m_s, .inl (cI, 51, .inl m_s)), (a_m_told, .inl (cI, 33, .inl m_told))] H := ⟨hP, hD⟩
    obtain ⟨hP, hD⟩ := hPD
    refine lv_aload_n hx hb dX8_isRead_23 rfl (lv_at hl 0 rfl) ?_
    refine va_get (D := D) (ci := 8) (v := .ref a_m_s) (C := RX8) (T := TX8) (N := 19) hx hb hts hiX8_isRead_8 hown hE.1 hP 0 rfl rfl 5 (by decide) fL19 (fun _ h9 => h9) rfl dX8_isRead_24 ?_
    refine lv_bipush (v := 8) hx hb dX8_isRead_27 (by decide) ?_
    refine lv_iload_n hx hb dX8_isRead_29 rfl (lv_at hl 1 rfl) ?_
    refine lv_imul hx hb dX8_isRead_30 ?_
    obtain ⟨hc4, hf⟩ := ck_some hf
    refine va_iald hx hb hE.1 hP 1 0 rfl rfl (ix_in hc4) dX8_isRead_31 ?_
    refine lv_icmp_ne (tgt := 39) hx hb dX8_isRead_32 (by decide) (fun hc5 => ?_) (fun hc5 => ?_)
    · have hf := if_f hf hc5
      refine lv_iconst (v := 0) hx hb dX8_isRead_39 (by decide) ?_
      have he := Option.some.inj hf
      subst he
      exact hret _ _ _ _ dX8_isRead_40 bn0 hP hD hS
    · have hf := if_t hf hc5
      refine lv_iconst (v := 1) hx hb dX8_isRead_35 (by decide) ?_
      refine lv_goto (tgt := 40) hx hb dX8_isRead_36 (by decide) ?_
      have he := Option.some.inj hf
      subst he
      exact hret _ _ _ _ dX8_isRead_40 bn1 hP hD hS
abbrev rmX8_allRead : Room := { frames := 2, cells := 0, slots := 0, locals := 44 }
theorem hiX8_allRead_8 : ∀ w ∈ wsX80, w ∈ wsX8_allRead := fun w h => (goodIn_r (big := wsX8_allRead) wsX80 [12, 13, 14, 15, 16, 17, 18, 19, 20, 21, 22, 23, 24, 25, 26, 27, 28, 29, 30] rfl (by decide +kernel) w h).1
theorem cw_X8_allRead_X8_isRead_101 {s : State} {args : Array Value} (hts : ∀ x ∈ wsX8_allRead, x.before args s = true) : CallW rmX8_allRead s args RX8 RX8 101 yX8_isRead cX8_isRead 2 (some .boolean) wsX8_isRead rmX8_isRead 0 0 1 := cwV 1 hts gX8_allRead_X8_isRead rfl rfl rfl (by decide +kernel) ⟨Nat.le_of_ble_eq_true rfl, Nat.le_of_ble_eq_true rfl⟩
set_option maxRecDepth 100000 in
set_option maxHeartbeats 4000000 in
theorem c_X8_allRead (l : Launch) (D : va_G) (cI cZ cR : ClassId) (a_m : Nat) (a_m_told : Nat) (a_m_s : Nat) (a_m_text : Nat) (a_m_draft : Nat) (a_m_past : Nat) (a_m_images : Nat) (a_m_kept : Nat) (a_m_notes : Nat) (a_m_noted : Nat) (a_m_held : Nat) (a_m_few : Nat) (m_trace : Int64) (m_typed : Int32) (m_known : Int32) (m_many : Int32) (m_at : Int32) (m_sort : Int32) (m_start : Int32) (m_value : Int32) (m_told : Nat → Int32) (m_s : Nat → Int32) (out : Int32) (hf : f_X8_allRead m_told m_s = some out) : Ci l yX8_allRead wsX8_allRead rmX8_allRead D cI cZ cR [.ref a_m] [(a_m, .inr (8, [.long m_trace, .ref a_m_text, .int m_typed, .ref a_m_told, .ref a_m_draft, .ref a_m_s, .ref a_m_past, .int m_known, .ref a_m_images, .ref a_m_kept, .ref a_m_notes, .ref a_m_noted, .int m_many, .int m_at, .int m_sort, .int m_start, .int m_value, .ref a_m_held, .ref a_m_few])), (a_m_told, .inl (cI, 33, .inl m_told)), (a_m_s, .inl (cI, 51, .inl m_s))] out [(a_m, .inr (8, [.long m_trace, .ref a_m_text, .int m_typed, .ref a_m_told, .ref a_m_draft, .ref a_m_s, .ref a_m_past, .int m_known, .ref a_m_images, .ref a_m_kept, .ref a_m_notes, .ref a_m_noted, .int m_many, .int m_at, .int m_sort, .int m_start, .int m_value, .ref a_m_held, .ref a_m_few])), (a_m_told, .inl (cI, 33, .inl m_told)), (a_m_s, .inl (cI, 51, .inl m_s))] := by
  refine ent_i (cc := cX8_allRead) (maxL := 3) .int (by decide) rfl (Nat.le_of_ble_eq_true rfl) ?_
  intro p e s m below meth c A Q hx hb hml hown hts hE hA hP hD hS hret ls hl
  have hown : s.vm.findClass RX8 = some m.cls := hown
  have hl : lv_has ls 3 [(0, .ref a_m)] := hl
  have fL13 := hts (.fieldLink RX8 13 "RainShelvesModel" "told" "[I") (List.mem_of_getElem? (i := 1) rfl)
  unfold f_X8_allRead at hf
  have L4 : ∀ (n4 : Nat) (v1_4 : Int32) (v2_4 : Int32), f_X8_allRead_L4 m_told m_s n4 v1_4 v2_4 = some out → ∀ (H : Heap) (locs : List Loc) (ls : Array Slot), PD D A [(a_m, .inr (8, [.long m_trace, .ref a_m_text, .int m_typed, .ref a_m_told, .ref a_m_draft, .ref a_m_s, .ref a_m_past, .int m_known, .ref a_m_images, .ref a_m_kept, .ref a_m_notes, .ref a_m_noted, .int m_many, .int m_at, .int m_sort, .int m_start, .int m_value, .ref a_m_held, .ref a_m_few])), (a_m_told, .inl (cI, 33, .inl m_told)), (a_m_s, .inl (cI, 51, .inl m_s))] H → va_S A s.heap H locs → lv_has ls 3 [(0, .ref a_m), (1, .int v1_4), (2, .int v2_4)] → W p l e rmX8_allRead s m ([.ref a_m] : List Value).toArray below meth c H locs 0 0 Q (F0 m 4 ls []) := by
    intro  n4
    induction n4 with
    | zero => intro v1_4 v2_4 hf; cases hf
    | succ n4 ih4 =>
      intro v1_4 v2_4 hf H locs ls hPD hS hl
      obtain ⟨hP, hD⟩ := hPD
      have hf : f_X8_allRead_B4 m_told m_s (f_X8_allRead_L4 m_told m_s n4) v1_4 v2_4 = some out := hf
      unfold f_X8_allRead_B4 at hf
      refine lv_iload_n hx hb dX8_allRead_4 rfl (lv_at hl 2 rfl) ?_
      refine lv_aload_n hx hb dX8_allRead_5 rfl (lv_at hl 0 rfl) ?_
      refine va_get (D := D) (ci := 8) (v := .ref a_m_told) (C := RX8) (T := TX8) (N := 19) hx hb hts hiX8_allRead_8 hown hE.1 hP 0 rfl rfl 3 (by decide) fL13 (fun _ h9 => h9) rfl dX8_allRead_6 ?_
      refine lv_iconst (v := 0) hx hb dX8_allRead_9 (by decide) ?_
      obtain ⟨hc1, hf⟩ := ck_some hf
      refine va_iald hx hb hE.1 hP 1 0 rfl rfl (ix_in hc1) dX8_allRead_10 ?_
      refine lv_icmp_ge (tgt := 38) hx hb dX8_allRead_11 (by decide) (fun hc2 => ?_) (fun hc2 => ?_)
      · have hf := if_t hf hc2
        refine lv_iload_n hx hb dX8_allRead_38 rfl (lv_at hl 1 rfl) ?_
        have he := Option.some.inj hf
        subst he
        exact hret _ _ _ _ dX8_allRead_39 rfl hP hD hS
      · have hf := if_f hf hc2
        refine lv_iload_n hx hb dX8_allRead_14 rfl (lv_at hl 1 rfl) ?_
        refine lv_aload_n hx hb dX8_allRead_15 rfl (lv_at hl 0 rfl) ?_
        refine lv_iload_n hx hb dX8_allRead_16 rfl (lv_at hl 2 rfl) ?_
        obtain ⟨u1, hu1, hf⟩ := bd_some hf
        refine cl_iV (As := [.int v2_4]) (rest := [.int v1_4]) ⟨hx, hb, hml, hown, hts⟩ (c_X8_isRead l D cI cZ cR a_m a_m_s a_m_told a_m_text a_m_draft a_m_past a_m_images a_m_kept a_m_notes a_m_noted a_m_held a_m_few m_trace m_typed m_known m_many m_at m_sort m_start m_value m_s m_told v2_4 u1 hu1) (cw_X8_allRead_X8_isRead_101 hts) hE hP hD hS hA [0, 2, 1] rfl rfl [a_m, a_m_s, a_m_told] rfl rfl 0 8 rfl rfl rfl hl.1 rfl (Nat.le_of_ble_eq_true rfl) dX8_allRead_17 ⟨Nat.zero_le _, Nat.zero_le _⟩ (fun H locs hP hD hS => ?_)
        have hPD : PD D A [(a_m, .inr (8, [.long m_trace, .ref a_m_text, .int m_typed, .ref a_m_told, .ref a_m_draft, .ref a_m_s, .ref a_m_past, .int m_known, .ref a_m_images, .ref a_m_kept, .ref a_m_notes, .ref a_m_noted, .int m_many, .int m_at, .int m_sort, .int m_start, .int m_value, .ref a_m_held, .ref a_m_few])), (a_m_told, .inl (cI, 33, .inl m_told)), (a_m_s, .inl (cI, 51, .inl m_s))] H := ⟨hP, hD⟩
        obtain ⟨hP, hD⟩ := hPD
        refine lv_if_eq (tgt := 29) hx hb dX8_allRead_20 (by decide) (fun hc3 => ?_) (fun hc3 => ?_)
        · have hf := if_t hf hc3
          refine lv_iconst (v := 0) hx hb dX8_allRead_29 (by decide) ?_
          refine lv_ior hx hb dX8_allRead_30 ?_
          refine lv_istore_n (lv' := [(1, .int (v1_4 ||| 0)), (0, .ref a_m), (2, .int v2_4)]) hx hb dX8_allRead_31 rfl hl (by decide) rfl (fun ls hl => ?_)
          refine lv_iinc (v := (v2_4 + 1)) (lv' := [(2, .int (v2_4 + 1)), (1, .int (v1_4 ||| 0)), (0, .ref a_m)]) hx hb dX8_allRead_32 hl (k := 2) rfl (ii_p1 _) (by decide) rfl (fun ls hl => ?_)
          refine lv_goto (tgt := 4) hx hb dX8_allRead_35 (by decide) ?_
          exact ih4 (v1_4 ||| 0) (v2_4 + 1) hf _ _ _ ⟨hP, hD⟩ hS (lv_sub hl [2, 1, 0] rfl)
        · have hf := if_f hf hc3
          refine lv_iconst (v := 1) hx hb dX8_allRead_23 (by decide) ?_
          refine lv_iload_n hx hb dX8_allRead_24 rfl (lv_at hl 2 rfl) ?_
          refine lv_ishl hx hb dX8_allRead_25 ?_
          refine lv_goto (tgt := 30) hx hb dX8_allRead_26 (by decide) ?_
          refine lv_ior hx hb dX8_allRead_30 ?_
          refine lv_istore_n (lv' := [(1, .int (v1_4 ||| ((1 : Int32) <<< (v2_4 &&& 31)))), (0, .ref a_m), (2, .int v2_4)]) hx hb dX8_allRead_31 rfl hl (by decide) rfl (fun ls hl => ?_)
          refine lv_iinc (v := (v2_4 + 1)) (lv' := [(2, .int (v2_4 + 1)), (1, .int (v1_4 ||| ((1 : Int32) <<< (v2_4 &&& 31)))), (0, .ref a_m)]) hx hb dX8_allRead_32 hl (k := 2) rfl (ii_p1 _) (by decide) rfl (fun ls hl => ?_)
          refine lv_goto (tgt := 4) hx hb dX8_allRead_35 (by decide) ?_
          exact ih4 (v1_4 ||| ((1 : Int32) <<< (v2_4 &&& 31))) (v2_4 + 1) hf _ _ _ ⟨hP, hD⟩ hS (lv_sub hl [2, 1, 0] rfl)
  refine lv_iconst (v := 0) hx hb dX8_allRead_0 (by decide) ?_
  refine lv_istore_n (lv' := [(1, .int 0), (0, .ref a_m)]) hx hb dX8_allRead_1 rfl hl (by decide) rfl (fun ls hl => ?_)
  refine lv_iconst (v := 0) hx hb dX8_allRead_2 (by decide) ?_
  refine lv_istore_n (lv' := [(2, .int 0), (1, .int 0), (0, .ref a_m)]) hx hb dX8_allRead_3 rfl hl (by decide) rfl (fun ls hl => ?_)
  exact L4  FU 0 0 hf _ _ _ ⟨hP, hD⟩ hS (lv_sub hl [2, 1, 0] rfl)
abbrev rmX8_pan : Room := { frames := 2, cells := 0, slots := 0, locals := 44 }
theorem hiX8_pan_8 : ∀ w ∈ wsX80, w ∈ wsX8_pan := fun w h => (goodIn_r (big := wsX8_pan) wsX80 [19, 20, 21, 22, 23, 24, 25, 26, 27, 28, 29, 30, 31, 32, 33, 34, 35, 36, 37] rfl (by decide +kernel) w h).1
theorem cw_X8_pan_X8_full_98 {s : State} {args : Array Value} (hts : ∀ x ∈ wsX8_pan, x.before args s = true) : CallW rmX8_pan s args RX8 RX8 98 yX8_full cX8_full 4 (some .int) wsX8_full rmX8_full 0 0 1 := cwV 1 hts gX8_pan_X8_full rfl rfl rfl (by decide +kernel) ⟨Nat.le_of_ble_eq_true rfl, Nat.le_of_ble_eq_true rfl⟩
theorem cw_X8_pan_X8_isRead_101 {s : State} {args : Array Value} (hts : ∀ x ∈ wsX8_pan, x.before args s = true) : CallW rmX8_pan s args RX8 RX8 101 yX8_isRead cX8_isRead 2 (some .boolean) wsX8_isRead rmX8_isRead 0 0 1 := cwV 1 hts gX8_pan_X8_isRead rfl rfl rfl (by decide +kernel) ⟨Nat.le_of_ble_eq_true rfl, Nat.le_of_ble_eq_true rfl⟩
theorem cw_X8_pan_X8_isPan_104 {s : State} {args : Array Value} (hts : ∀ x ∈ wsX8_pan, x.before args s = true) : CallW rmX8_pan s args RX8 RX8 104 yX8_isPan cX8_isPan 2 (some .boolean) wsX8_isPan rmX8_isPan 0 0 1 := cwV 1 hts gX8_pan_X8_isPan rfl rfl rfl (by decide +kernel) ⟨Nat.le_of_ble_eq_true rfl, Nat.le_of_ble_eq_true rfl⟩
theorem cw_X8_pan_X8_in_51 {s : State} {args : Array Value} (hts : ∀ x ∈ wsX8_pan, x.before args s = true) : CallB rmX8_pan s args RX8 51 yX8_in cX8_in 3 (some .boolean) wsX8_in rmX8_in 0 0 3 ∧ (Cond.static yX8_in).before args s = true := va_cwS 3 hts gX8_pan_X8_in rfl rfl rfl (by decide +kernel) ⟨Nat.le_of_ble_eq_true rfl, Nat.le_of_ble_eq_true rfl⟩
set_option maxRecDepth 100000 in
set_option maxHeartbeats 4000000 in
theorem c_X8_pan (l : Launch) (D : va_G) (cI cZ cR : ClassId) (a_m : Nat) (a_m_told : Nat) (a_m_s : Nat) (a_m_text : Nat) (a_m_draft : Nat) (a_m_past : Nat) (a_m_images : Nat) (a_m_kept : Nat) (a_m_notes : Nat) (a_m_noted : Nat) (a_m_held : Nat) (a_m_few : Nat) (m_trace : Int64) (m_typed : Int32) (m_known : Int32) (m_many : Int32) (m_at : Int32) (m_sort : Int32) (m_start : Int32) (m_value : Int32) (m_told : Nat → Int32) (m_s : Nat → Int32) (v1 : Int32) (v2 : Int32) (out : Int32) (hf : f_X8_pan m_told m_s v1 v2 = some out) : Ci l yX8_pan wsX8_pan rmX8_pan D cI cZ cR [.ref a_m, .int v1, .int v2] [(a_m, .inr (8, [.long m_trace, .ref a_m_text, .int m_typed, .ref a_m_told, .ref a_m_draft, .ref a_m_s, .ref a_m_past, .int m_known, .ref a_m_images, .ref a_m_kept, .ref a_m_notes, .ref a_m_noted, .int m_many, .int m_at, .int m_sort, .int m_start, .int m_value, .ref a_m_held, .ref a_m_few])), (a_m_told, .inl (cI, 33, .inl m_told)), (a_m_s, .inl (cI, 51, .inl m_s))] out [(a_m, .inr (8, [.long m_trace, .ref a_m_text, .int m_typed, .ref a_m_told, .ref a_m_draft, .ref a_m_s, .ref a_m_past, .int m_known, .ref a_m_images, .ref a_m_kept, .ref a_m_notes, .ref a_m_noted, .int m_many, .int m_at, .int m_sort, .int m_start, .int m_value, .ref a_m_held, .ref a_m_few])), (a_m_told, .inl (cI, 33, .inl m_told)), (a_m_s, .inl (cI, 51, .inl m_s))] := by
  refine ent_i (cc := cX8_pan) (maxL := 6) .int (by decide) rfl (Nat.le_of_ble_eq_true rfl) ?_
  intro p e s m below meth c A Q hx hb hml hown hts hE hA hP hD hS hret ls hl
  have hown : s.vm.findClass RX8 = some m.cls := hown
  have hl : lv_has ls 6 [(0, .ref a_m), (1, .int v1), (2, .int v2)] := hl
  have fL13 := hts (.fieldLink RX8 13 "RainShelvesModel" "told" "[I") (List.mem_of_getElem? (i := 1) rfl)
  have fL19 := hts (.fieldLink RX8 19 "RainShelvesModel" "s" "[I") (List.mem_of_getElem? (i := 2) rfl)
  unfold f_X8_pan at hf
  have J98 : ∀ (v3_98 : Int32) (v4_98 : Int32), f_X8_pan_J98 m_told m_s v1 v2 v3_98 v4_98 = some out → ∀ (H : Heap) (locs : List Loc) (ls : Array Slot), PD D A [(a_m, .inr (8, [.long m_trace, .ref a_m_text, .int m_typed, .ref a_m_told, .ref a_m_draft, .ref a_m_s, .ref a_m_past, .int m_known, .ref a_m_images, .ref a_m_kept, .ref a_m_notes, .ref a_m_noted, .int m_many, .int m_at, .int m_sort, .int m_start, .int m_value, .ref a_m_held, .ref a_m_few])), (a_m_told, .inl (cI, 33, .inl m_told)), (a_m_s, .inl (cI, 51, .inl m_s))] H → va_S A s.heap H locs → lv_has ls 6 [(0, .ref a_m), (1, .int v1), (2, .int v2), (3, .int v3_98), (4, .int v4_98)] → W p l e rmX8_pan s m ([.ref a_m, .int v1, .int v2] : List Value).toArray below meth c H locs 0 0 Q (F0 m 98 ls []) := by
    intro v3_98 v4_98 hf H locs ls hPD hS hl
    obtain ⟨hP, hD⟩ := hPD
    unfold f_X8_pan_J98 at hf
    refine lv_iload_n hx hb dX8_pan_98 rfl (lv_at hl 2 rfl) ?_
    by_cases hc1 : v2 = 0
    · have hf := if_t hf hc1
      refine lv_tableIn (off := 37) (tgt := 136) hx hb dX8_pan_99 (by rw [hc1]; decide) (by rw [hc1]; decide) (by rw [hc1]; rfl) (by decide) ?_
      refine lv_aload_n hx hb dX8_pan_136 rfl (lv_at hl 0 rfl) ?_
      refine va_get (D := D) (ci := 8) (v := .ref a_m_told) (C := RX8) (T := TX8) (N := 19) hx hb hts hiX8_pan_8 hown hE.1 hP 0 rfl rfl 3 (by decide) fL13 (fun _ h9 => h9) rfl dX8_pan_137 ?_
      refine lv_iconst (v := 5) hx hb dX8_pan_140 (by decide) ?_
      refine lv_iload_n hx hb dX8_pan_141 rfl (lv_at hl 1 rfl) ?_
      refine lv_iadd hx hb dX8_pan_142 ?_
      obtain ⟨hc2, hf⟩ := ck_some hf
      refine va_iald hx hb hE.1 hP 1 0 rfl rfl (ix_in hc2) dX8_pan_143 ?_
      have he := Option.some.inj hf
      subst he
      exact hret _ _ _ _ dX8_pan_144 rfl hP hD hS
    have hf := if_f hf hc1
    by_cases hc3 : v2 = 1
    · have hf := if_t hf hc3
      refine lv_tableIn (off := 46) (tgt := 145) hx hb dX8_pan_99 (by rw [hc3]; decide) (by rw [hc3]; decide) (by rw [hc3]; rfl) (by decide) ?_
      refine lv_aload_n hx hb dX8_pan_145 rfl (lv_at hl 0 rfl) ?_
      refine va_get (D := D) (ci := 8) (v := .ref a_m_told) (C := RX8) (T := TX8) (N := 19) hx hb hts hiX8_pan_8 hown hE.1 hP 0 rfl rfl 3 (by decide) fL13 (fun _ h9 => h9) rfl dX8_pan_146 ?_
      refine lv_bipush (v := 19) hx hb dX8_pan_149 (by decide) ?_
      refine lv_iload_n hx hb dX8_pan_151 rfl (lv_at hl 1 rfl) ?_
      refine lv_iadd hx hb dX8_pan_152 ?_
      obtain ⟨hc4, hf⟩ := ck_some hf
      refine va_iald hx hb hE.1 hP 1 0 rfl rfl (ix_in hc4) dX8_pan_153 ?_
      have he := Option.some.inj hf
      subst he
      exact hret _ _ _ _ dX8_pan_154 rfl hP hD hS
    have hf := if_f hf hc3
    by_cases hc5 : v2 = 2
    · have hf := if_t hf hc5
      refine lv_tableIn (off := 56) (tgt := 155) hx hb dX8_pan_99 (by rw [hc5]; decide) (by rw [hc5]; decide) (by rw [hc5]; rfl) (by decide) ?_
      refine lv_aload_n hx hb dX8_pan_155 rfl (lv_at hl 0 rfl) ?_
      refine va_get (D := D) (ci := 8) (v := .ref a_m_told) (C := RX8) (T := TX8) (N := 19) hx hb hts hiX8_pan_8 hown hE.1 hP 0 rfl rfl 3 (by decide) fL13 (fun _ h9 => h9) rfl dX8_pan_156 ?_
      refine lv_bipush (v := 26) hx hb dX8_pan_159 (by decide) ?_
      refine lv_iload_n hx hb dX8_pan_161 rfl (lv_at hl 1 rfl) ?_
      refine lv_iadd hx hb dX8_pan_162 ?_
      obtain ⟨hc6, hf⟩ := ck_some hf
      refine va_iald hx hb hE.1 hP 1 0 rfl rfl (ix_in hc6) dX8_pan_163 ?_
      have he := Option.some.inj hf
      subst he
      exact hret _ _ _ _ dX8_pan_164 rfl hP hD hS
    have hf := if_f hf hc5
    by_cases hc7 : v2 = 3
    · have hf := if_t hf hc7
      refine lv_tableIn (off := 66) (tgt := 165) hx hb dX8_pan_99 (by rw [hc7]; decide) (by rw [hc7]; decide) (by rw [hc7]; rfl) (by decide) ?_
      refine lv_aload_n hx hb dX8_pan_165 rfl (lv_at hl 0 rfl) ?_
      refine lv_iload_n hx hb dX8_pan_166 rfl (lv_at hl 1 rfl) ?_
      obtain ⟨u1, hu1, hf⟩ := bd_some hf
      refine cl_iV (As := [.int v1]) (rest := []) ⟨hx, hb, hml, hown, hts⟩ (c_X8_full l D cI cZ cR a_m a_m_s a_m_text a_m_told a_m_draft a_m_past a_m_images a_m_kept a_m_notes a_m_noted a_m_held a_m_few m_trace m_typed m_known m_many m_at m_sort m_start m_value m_s v1 u1 hu1) (cw_X8_pan_X8_full_98 hts) hE hP hD hS hA [0, 2] rfl rfl [a_m, a_m_s] rfl rfl 0 8 rfl rfl rfl hl.1 rfl (Nat.le_of_ble_eq_true rfl) dX8_pan_167 ⟨Nat.zero_le _, Nat.zero_le _⟩ (fun H locs hP hD hS => ?_)
      have hPD : PD D A [(a_m, .inr (8, [.long m_trace, .ref a_m_text, .int m_typed, .ref a_m_told, .ref a_m_draft, .ref a_m_s, .ref a_m_past, .int m_known, .ref a_m_images, .ref a_m_kept, .ref a_m_notes, .ref a_m_noted, .int m_many, .int m_at, .int m_sort, .int m_start, .int m_value, .ref a_m_held, .ref a_m_few])), (a_m_told, .inl (cI, 33, .inl m_told)), (a_m_s, .inl (cI, 51, .inl m_s))] H := ⟨hP, hD⟩
      obtain ⟨hP, hD⟩ := hPD
      have he := Option.some.inj hf
      subst he
      exact hret _ _ _ _ dX8_pan_170 rfl hP hD hS
    have hf := if_f hf hc7
    by_cases hc8 : v2 = 4
    · have hf := if_t hf hc8
      refine lv_tableIn (off := 72) (tgt := 171) hx hb dX8_pan_99 (by rw [hc8]; decide) (by rw [hc8]; decide) (by rw [hc8]; rfl) (by decide) ?_
      refine lv_aload_n hx hb dX8_pan_171 rfl (lv_at hl 0 rfl) ?_
      refine lv_iload_n hx hb dX8_pan_172 rfl (lv_at hl 1 rfl) ?_
      obtain ⟨u2, hu2, hf⟩ := bd_some hf
      refine cl_iV (As := [.int v1]) (rest := []) ⟨hx, hb, hml, hown, hts⟩ (c_X8_isRead l D cI cZ cR a_m a_m_s a_m_told a_m_text a_m_draft a_m_past a_m_images a_m_kept a_m_notes a_m_noted a_m_held a_m_few m_trace m_typed m_known m_many m_at m_sort m_start m_value m_s m_told v1 u2 hu2) (cw_X8_pan_X8_isRead_101 hts) hE hP hD hS hA [0, 2, 1] rfl rfl [a_m, a_m_s, a_m_told] rfl rfl 0 8 rfl rfl rfl hl.1 rfl (Nat.le_of_ble_eq_true rfl) dX8_pan_173 ⟨Nat.zero_le _, Nat.zero_le _⟩ (fun H locs hP hD hS => ?_)
      have hPD : PD D A [(a_m, .inr (8, [.long m_trace, .ref a_m_text, .int m_typed, .ref a_m_told, .ref a_m_draft, .ref a_m_s, .ref a_m_past, .int m_known, .ref a_m_images, .ref a_m_kept, .ref a_m_notes, .ref a_m_noted, .int m_many, .int m_at, .int m_sort, .int m_start, .int m_value, .ref a_m_held, .ref a_m_few])), (a_m_told, .inl (cI, 33, .inl m_told)), (a_m_s, .inl (cI, 51, .inl m_s))] H := ⟨hP, hD⟩
      obtain ⟨hP, hD⟩ := hPD
      refine lv_if_eq (tgt := 183) hx hb dX8_pan_176 (by decide) (fun hc9 => ?_) (fun hc9 => ?_)
      · have hf := if_t hf hc9
        refine lv_iconst (v := 0) hx hb dX8_pan_183 (by decide) ?_
        have he := Option.some.inj hf
        subst he
        exact hret _ _ _ _ dX8_pan_184 rfl hP hD hS
      · have hf := if_f hf hc9
        refine lv_iconst (v := 1) hx hb dX8_pan_179 (by decide) ?_
        refine lv_goto (tgt := 184) hx hb dX8_pan_180 (by decide) ?_
        have he := Option.some.inj hf
        subst he
        exact hret _ _ _ _ dX8_pan_184 rfl hP hD hS
    have hf := if_f hf hc8
    by_cases hc10 : v2 = 5
    · have hf := if_t hf hc10
      refine lv_tableIn (off := 86) (tgt := 185) hx hb dX8_pan_99 (by rw [hc10]; decide) (by rw [hc10]; decide) (by rw [hc10]; rfl) (by decide) ?_
      refine lv_iload_n hx hb dX8_pan_185 rfl (lv_at hl 3 rfl) ?_
      have he := Option.some.inj hf
      subst he
      exact hret _ _ _ _ dX8_pan_186 rfl hP hD hS
    have hf := if_f hf hc10
    refine lv_tableOut (tgt := 187) hx hb dX8_pan_99 (by have q0 : ¬ (v2).toInt = 0 := fun e => hc1 (Int32.toInt_inj.mp (e.trans (by decide))); have q1 : ¬ (v2).toInt = 1 := fun e => hc3 (Int32.toInt_inj.mp (e.trans (by decide))); have q2 : ¬ (v2).toInt = 2 := fun e => hc5 (Int32.toInt_inj.mp (e.trans (by decide))); have q3 : ¬ (v2).toInt = 3 := fun e => hc7 (Int32.toInt_inj.mp (e.trans (by decide))); have q4 : ¬ (v2).toInt = 4 := fun e => hc8 (Int32.toInt_inj.mp (e.trans (by decide))); have q5 : ¬ (v2).toInt = 5 := fun e => hc10 (Int32.toInt_inj.mp (e.trans (by decide))); omega) (by decide) ?_
    refine lv_iload hx hb dX8_pan_187 (lv_at hl 4 rfl) ?_
    have he := Option.some.inj hf
    subst he
    exact hret _ _ _ _ dX8_pan_189 rfl hP hD hS
  have L28 : ∀ (n28 : Nat) (v3_28 : Int32) (v4_28 : Int32) (v5_28 : Int32), f_X8_pan_L28 m_told m_s v1 v2 n28 v3_28 v4_28 v5_28 = some out → ∀ (H : Heap) (locs : List Loc) (ls : Array Slot), PD D A [(a_m, .inr (8, [.long m_trace, .ref a_m_text, .int m_typed, .ref a_m_told, .ref a_m_draft, .ref a_m_s, .ref a_m_past, .int m_known, .ref a_m_images, .ref a_m_kept, .ref a_m_notes, .ref a_m_noted, .int m_many, .int m_at, .int m_sort, .int m_start, .int m_value, .ref a_m_held, .ref a_m_few])), (a_m_told, .inl (cI, 33, .inl m_told)), (a_m_s, .inl (cI, 51, .inl m_s))] H → va_S A s.heap H locs → lv_has ls 6 [(0, .ref a_m), (1, .int v1), (2, .int v2), (3, .int v3_28), (4, .int v4_28), (5, .int v5_28)] → W p l e rmX8_pan s m ([.ref a_m, .int v1, .int v2] : List Value).toArray below meth c H locs 0 0 Q (F0 m 28 ls []) := by
    intro  n28
    induction n28 with
    | zero => intro v3_28 v4_28 v5_28 hf; cases hf
    | succ n28 ih28 =>
      intro v3_28 v4_28 v5_28 hf H locs ls hPD hS hl
      obtain ⟨hP, hD⟩ := hPD
      have hf : f_X8_pan_B28 m_told m_s v1 v2 (f_X8_pan_L28 m_told m_s v1 v2 n28) v3_28 v4_28 v5_28 = some out := hf
      unfold f_X8_pan_B28 at hf
      refine lv_iload hx hb dX8_pan_28 (lv_at hl 5 rfl) ?_
      refine lv_aload_n hx hb dX8_pan_30 rfl (lv_at hl 0 rfl) ?_
      refine va_get (D := D) (ci := 8) (v := .ref a_m_told) (C := RX8) (T := TX8) (N := 19) hx hb hts hiX8_pan_8 hown hE.1 hP 0 rfl rfl 3 (by decide) fL13 (fun _ h9 => h9) rfl dX8_pan_31 ?_
      refine lv_iconst (v := 0) hx hb dX8_pan_34 (by decide) ?_
      obtain ⟨hc11, hf⟩ := ck_some hf
      refine va_iald hx hb hE.1 hP 1 0 rfl rfl (ix_in hc11) dX8_pan_35 ?_
      refine lv_icmp_ge (tgt := 98) hx hb dX8_pan_36 (by decide) (fun hc12 => ?_) (fun hc12 => ?_)
      · have hf := if_t hf hc12
        exact J98 v3_28 v4_28 hf _ _ _ ⟨hP, hD⟩ hS (lv_sub hl [0, 1, 2, 3, 4] rfl)
      · have hf := if_f hf hc12
        refine lv_iload_n hx hb dX8_pan_39 rfl (lv_at hl 3 rfl) ?_
        refine lv_aload_n hx hb dX8_pan_40 rfl (lv_at hl 0 rfl) ?_
        refine va_get (D := D) (ci := 8) (v := .ref a_m_s) (C := RX8) (T := TX8) (N := 19) hx hb hts hiX8_pan_8 hown hE.1 hP 0 rfl rfl 5 (by decide) fL19 (fun _ h9 => h9) rfl dX8_pan_41 ?_
        refine lv_bipush (v := 7) hx hb dX8_pan_44 (by decide) ?_
        refine lv_iload_n hx hb dX8_pan_46 rfl (lv_at hl 1 rfl) ?_
        refine lv_imul hx hb dX8_pan_47 ?_
        refine lv_iload hx hb dX8_pan_48 (lv_at hl 5 rfl) ?_
        refine lv_iadd hx hb dX8_pan_50 ?_
        obtain ⟨hc13, hf⟩ := ck_some hf
        refine va_iald hx hb hE.1 hP 2 0 rfl rfl (ix_in hc13) dX8_pan_51 ?_
        refine lv_aload_n hx hb dX8_pan_52 rfl (lv_at hl 0 rfl) ?_
        refine va_get (D := D) (ci := 8) (v := .ref a_m_told) (C := RX8) (T := TX8) (N := 19) hx hb hts hiX8_pan_8 hown hE.1 hP 0 rfl rfl 3 (by decide) fL13 (fun _ h9 => h9) rfl dX8_pan_53 ?_
        refine lv_iconst (v := 5) hx hb dX8_pan_56 (by decide) ?_
        refine lv_iload hx hb dX8_pan_57 (lv_at hl 5 rfl) ?_
        refine lv_iadd hx hb dX8_pan_59 ?_
        obtain ⟨hc14, hf⟩ := ck_some hf
        refine va_iald hx hb hE.1 hP 1 0 rfl rfl (ix_in hc14) dX8_pan_60 ?_
        refine lv_imul hx hb dX8_pan_61 ?_
        refine lv_iadd hx hb dX8_pan_62 ?_
        refine lv_istore_n (lv' := [(3, .int (v3_28 + ((m_s ((7 * v1) + v5_28).toNatClampNeg) * (m_told (5 + v5_28).toNatClampNeg)))), (0, .ref a_m), (1, .int v1), (2, .int v2), (4, .int v4_28), (5, .int v5_28)]) hx hb dX8_pan_63 rfl hl (by decide) rfl (fun ls hl => ?_)
        refine lv_iload hx hb dX8_pan_64 (lv_at hl 4 rfl) ?_
        refine lv_aload_n hx hb dX8_pan_66 rfl (lv_at hl 1 rfl) ?_
        refine va_get (D := D) (ci := 8) (v := .ref a_m_s) (C := RX8) (T := TX8) (N := 19) hx hb hts hiX8_pan_8 hown hE.1 hP 0 rfl rfl 5 (by decide) fL19 (fun _ h9 => h9) rfl dX8_pan_67 ?_
        refine lv_bipush (v := 7) hx hb dX8_pan_70 (by decide) ?_
        refine lv_iload hx hb dX8_pan_72 (lv_at hl 5 rfl) ?_
        refine lv_imul hx hb dX8_pan_74 ?_
        refine lv_iload_n hx hb dX8_pan_75 rfl (lv_at hl 2 rfl) ?_
        refine lv_iadd hx hb dX8_pan_76 ?_
        obtain ⟨hc15, hf⟩ := ck_some hf
        refine va_iald hx hb hE.1 hP 2 0 rfl rfl (ix_in hc15) dX8_pan_77 ?_
        refine lv_if_le (tgt := 88) hx hb dX8_pan_78 (by decide) (fun hc16 => ?_) (fun hc16 => ?_)
        · have hf := if_t hf hc16
          refine lv_iconst (v := 0) hx hb dX8_pan_88 (by decide) ?_
          refine lv_ior hx hb dX8_pan_89 ?_
          refine lv_istore (lv' := [(4, .int (v4_28 ||| 0)), (3, .int (v3_28 + ((m_s ((7 * v1) + v5_28).toNatClampNeg) * (m_told (5 + v5_28).toNatClampNeg)))), (0, .ref a_m), (1, .int v1), (2, .int v2), (5, .int v5_28)]) hx hb dX8_pan_90 hl (by decide) rfl (fun ls hl => ?_)
          refine lv_iinc (v := (v5_28 + 1)) (lv' := [(5, .int (v5_28 + 1)), (4, .int (v4_28 ||| 0)), (3, .int (v3_28 + ((m_s ((7 * v1) + v5_28).toNatClampNeg) * (m_told (5 + v5_28).toNatClampNeg)))), (0, .ref a_m), (1, .int v1), (2, .int v2)]) hx hb dX8_pan_92 hl (k := 5) rfl (ii_p1 _) (by decide) rfl (fun ls hl => ?_)
          refine lv_goto (tgt := 28) hx hb dX8_pan_95 (by decide) ?_
          exact ih28 (v3_28 + ((m_s ((7 * v1) + v5_28).toNatClampNeg) * (m_told (5 + v5_28).toNatClampNeg))) (v4_28 ||| 0) (v5_28 + 1) hf _ _ _ ⟨hP, hD⟩ hS (lv_sub hl [3, 4, 5, 2, 1, 0] rfl)
        · have hf := if_f hf hc16
          refine lv_iconst (v := 1) hx hb dX8_pan_81 (by decide) ?_
          refine lv_iload hx hb dX8_pan_82 (lv_at hl 5 rfl) ?_
          refine lv_ishl hx hb dX8_pan_84 ?_
          refine lv_goto (tgt := 89) hx hb dX8_pan_85 (by decide) ?_
          refine lv_ior hx hb dX8_pan_89 ?_
          refine lv_istore (lv' := [(4, .int (v4_28 ||| ((1 : Int32) <<< (v5_28 &&& 31)))), (3, .int (v3_28 + ((m_s ((7 * v1) + v5_28).toNatClampNeg) * (m_told (5 + v5_28).toNatClampNeg)))), (0, .ref a_m), (1, .int v1), (2, .int v2), (5, .int v5_28)]) hx hb dX8_pan_90 hl (by decide) rfl (fun ls hl => ?_)
          refine lv_iinc (v := (v5_28 + 1)) (lv' := [(5, .int (v5_28 + 1)), (4, .int (v4_28 ||| ((1 : Int32) <<< (v5_28 &&& 31)))), (3, .int (v3_28 + ((m_s ((7 * v1) + v5_28).toNatClampNeg) * (m_told (5 + v5_28).toNatClampNeg)))), (0, .ref a_m), (1, .int v1), (2, .int v2)]) hx hb dX8_pan_92 hl (k := 5) rfl (ii_p1 _) (by decide) rfl (fun ls hl => ?_)
          refine lv_goto (tgt := 28) hx hb dX8_pan_95 (by decide) ?_
          exact ih28 (v3_28 + ((m_s ((7 * v1) + v5_28).toNatClampNeg) * (m_told (5 + v5_28).toNatClampNeg))) (v4_28 ||| ((1 : Int32) <<< (v5_28 &&& 31))) (v5_28 + 1) hf _ _ _ ⟨hP, hD⟩ hS (lv_sub hl [3, 4, 5, 2, 1, 0] rfl)
  refine lv_aload_n hx hb dX8_pan_0 rfl (lv_at hl 0 rfl) ?_
  refine lv_iload_n hx hb dX8_pan_1 rfl (lv_at hl 1 rfl) ?_
  obtain ⟨u3, hu3, hf⟩ := bd_some hf
  refine cl_iV (As := [.int v1]) (rest := []) ⟨hx, hb, hml, hown, hts⟩ (c_X8_isPan l D cI cZ cR a_m a_m_told a_m_text a_m_draft a_m_s a_m_past a_m_images a_m_kept a_m_notes a_m_noted a_m_held a_m_few m_trace m_typed m_known m_many m_at m_sort m_start m_value m_told v1 u3 hu3) (cw_X8_pan_X8_isPan_104 hts) hE hP hD hS hA [0, 1] rfl rfl [a_m, a_m_told] rfl rfl 0 8 rfl rfl rfl hl.1 rfl (Nat.le_of_ble_eq_true rfl) dX8_pan_2 ⟨Nat.zero_le _, Nat.zero_le _⟩ (fun H locs hP hD hS => ?_)
  have hPD : PD D A [(a_m, .inr (8, [.long m_trace, .ref a_m_text, .int m_typed, .ref a_m_told, .ref a_m_draft, .ref a_m_s, .ref a_m_past, .int m_known, .ref a_m_images, .ref a_m_kept, .ref a_m_notes, .ref a_m_noted, .int m_many, .int m_at, .int m_sort, .int m_start, .int m_value, .ref a_m_held, .ref a_m_few])), (a_m_told, .inl (cI, 33, .inl m_told)), (a_m_s, .inl (cI, 51, .inl m_s))] H := ⟨hP, hD⟩
  obtain ⟨hP, hD⟩ := hPD
  refine lv_if_eq (tgt := 18) hx hb dX8_pan_5 (by decide) (fun hc17 => ?_) (fun hc17 => ?_)
  · have hf := if_t hf hc17
    refine lv_iconst (v := (-1)) hx hb dX8_pan_18 (by decide) ?_
    have he := Option.some.inj hf
    subst he
    exact hret _ _ _ _ dX8_pan_19 rfl hP hD hS
  · have hf := if_f hf hc17
    refine lv_iload_n hx hb dX8_pan_8 rfl (lv_at hl 2 rfl) ?_
    refine lv_iconst (v := 0) hx hb dX8_pan_9 (by decide) ?_
    refine lv_bipush (v := 6) hx hb dX8_pan_10 (by decide) ?_
    obtain ⟨u4, hu4, hf⟩ := bd_some hf
    refine cl_iS (As := [.int v2, .int 0, .int 6]) (rest := []) ⟨hx, hb, hml, hown, hts⟩ (c_X8_in l D cI cZ cR   v2 0 6 u4 hu4) (cw_X8_pan_X8_in_51 hts) hE hP hD hS hA rfl hl.1 rfl (Nat.le_of_ble_eq_true rfl) dX8_pan_12 ⟨Nat.zero_le _, Nat.zero_le _⟩ (fun H locs hP hS => ?_)
    refine lv_if_ne (tgt := 20) hx hb dX8_pan_15 (by decide) (fun hc18 => ?_) (fun hc18 => ?_)
    · have hf := if_f hf hc18
      refine lv_iconst (v := 0) hx hb dX8_pan_20 (by decide) ?_
      refine lv_istore_n (lv' := [(3, .int 0), (0, .ref a_m), (1, .int v1), (2, .int v2)]) hx hb dX8_pan_21 rfl hl (by decide) rfl (fun ls hl => ?_)
      refine lv_iconst (v := 0) hx hb dX8_pan_22 (by decide) ?_
      refine lv_istore (lv' := [(4, .int 0), (3, .int 0), (0, .ref a_m), (1, .int v1), (2, .int v2)]) hx hb dX8_pan_23 hl (by decide) rfl (fun ls hl => ?_)
      refine lv_iconst (v := 0) hx hb dX8_pan_25 (by decide) ?_
      refine lv_istore (lv' := [(5, .int 0), (4, .int 0), (3, .int 0), (0, .ref a_m), (1, .int v1), (2, .int v2)]) hx hb dX8_pan_26 hl (by decide) rfl (fun ls hl => ?_)
      exact L28  FU 0 0 0 hf _ _ _ ⟨hP, hD⟩ hS (lv_sub hl [3, 4, 5, 2, 1, 0] rfl)
    · have hf := if_t hf hc18
      refine lv_iconst (v := (-1)) hx hb dX8_pan_18 (by decide) ?_
      have he := Option.some.inj hf
      subst he
      exact hret _ _ _ _ dX8_pan_19 rfl hP hD hS
abbrev rmX8_holds : Room := { frames := 2, cells := 0, slots := 0, locals := 43 }
theorem hiX8_holds_8 : ∀ w ∈ wsX80, w ∈ wsX8_holds := fun w h => (goodIn_r (big := wsX8_holds) wsX80 [11, 12, 13, 14, 15, 16, 17, 18, 19, 20, 21, 22, 23, 24, 25, 26, 27, 28, 29] rfl (by decide +kernel) w h).1
theorem cw_X8_holds_X8_isPan_104 {s : State} {args : Array Value} (hts : ∀ x ∈ wsX8_holds, x.before args s = true) : CallW rmX8_holds s args RX8 RX8 104 yX8_isPan cX8_isPan 2 (some .boolean) wsX8_isPan rmX8_isPan 0 0 1 := cwV 1 hts gX8_holds_X8_isPan rfl rfl rfl (by decide +kernel) ⟨Nat.le_of_ble_eq_true rfl, Nat.le_of_ble_eq_true rfl⟩
set_option maxRecDepth 100000 in
set_option maxHeartbeats 4000000 in
theorem c_X8_holds (l : Launch) (D : va_G) (cI cZ cR : ClassId) (a_m : Nat) (a_m_told : Nat) (a_m_s : Nat) (a_m_text : Nat) (a_m_draft : Nat) (a_m_past : Nat) (a_m_images : Nat) (a_m_kept : Nat) (a_m_notes : Nat) (a_m_noted : Nat) (a_m_held : Nat) (a_m_few : Nat) (m_trace : Int64) (m_typed : Int32) (m_known : Int32) (m_many : Int32) (m_at : Int32) (m_sort : Int32) (m_start : Int32) (m_value : Int32) (m_told : Nat → Int32) (m_s : Nat → Int32) (v1 : Int32) (v2 : Int32) (out : Int32) (hf : f_X8_holds m_told m_s v1 v2 = some out) : Ci l yX8_holds wsX8_holds rmX8_holds D cI cZ cR [.ref a_m, .int v1, .int v2] [(a_m, .inr (8, [.long m_trace, .ref a_m_text, .int m_typed, .ref a_m_told, .ref a_m_draft, .ref a_m_s, .ref a_m_past, .int m_known, .ref a_m_images, .ref a_m_kept, .ref a_m_notes, .ref a_m_noted, .int m_many, .int m_at, .int m_sort, .int m_start, .int m_value, .ref a_m_held, .ref a_m_few])), (a_m_told, .inl (cI, 33, .inl m_told)), (a_m_s, .inl (cI, 51, .inl m_s))] out [(a_m, .inr (8, [.long m_trace, .ref a_m_text, .int m_typed, .ref a_m_told, .ref a_m_draft, .ref a_m_s, .ref a_m_past, .int m_known, .ref a_m_images, .ref a_m_kept, .ref a_m_notes, .ref a_m_noted, .int m_many, .int m_at, .int m_sort, .int m_start, .int m_value, .ref a_m_held, .ref a_m_few])), (a_m_told, .inl (cI, 33, .inl m_told)), (a_m_s, .inl (cI, 51, .inl m_s))] := by
  refine ent_i (cc := cX8_holds) (maxL := 3) .int (by decide) rfl (Nat.le_of_ble_eq_true rfl) ?_
  intro p e s m below meth c A Q hx hb hml hown hts hE hA hP hD hS hret ls hl
  have hown : s.vm.findClass RX8 = some m.cls := hown
  have hl : lv_has ls 3 [(0, .ref a_m), (1, .int v1), (2, .int v2)] := hl
  have fL19 := hts (.fieldLink RX8 19 "RainShelvesModel" "s" "[I") (List.mem_of_getElem? (i := 1) rfl)
  unfold f_X8_holds at hf
  refine lv_aload_n hx hb dX8_holds_0 rfl (lv_at hl 0 rfl) ?_
  refine lv_iload_n hx hb dX8_holds_1 rfl (lv_at hl 1 rfl) ?_
  obtain ⟨u1, hu1, hf⟩ := bd_some hf
  refine cl_iV (As := [.int v1]) (rest := []) ⟨hx, hb, hml, hown, hts⟩ (c_X8_isPan l D cI cZ cR a_m a_m_told a_m_text a_m_draft a_m_s a_m_past a_m_images a_m_kept a_m_notes a_m_noted a_m_held a_m_few m_trace m_typed m_known m_many m_at m_sort m_start m_value m_told v1 u1 hu1) (cw_X8_holds_X8_isPan_104 hts) hE hP hD hS hA [0, 1] rfl rfl [a_m, a_m_told] rfl rfl 0 8 rfl rfl rfl hl.1 rfl (Nat.le_of_ble_eq_true rfl) dX8_holds_2 ⟨Nat.zero_le _, Nat.zero_le _⟩ (fun H locs hP hD hS => ?_)
  have hPD : PD D A [(a_m, .inr (8, [.long m_trace, .ref a_m_text, .int m_typed, .ref a_m_told, .ref a_m_draft, .ref a_m_s, .ref a_m_past, .int m_known, .ref a_m_images, .ref a_m_kept, .ref a_m_notes, .ref a_m_noted, .int m_many, .int m_at, .int m_sort, .int m_start, .int m_value, .ref a_m_held, .ref a_m_few])), (a_m_told, .inl (cI, 33, .inl m_told)), (a_m_s, .inl (cI, 51, .inl m_s))] H := ⟨hP, hD⟩
  obtain ⟨hP, hD⟩ := hPD
  refine lv_if_eq (tgt := 30) hx hb dX8_holds_5 (by decide) (fun hc1 => ?_) (fun hc1 => ?_)
  · have hf := if_t hf hc1
    refine lv_iconst (v := (-1)) hx hb dX8_holds_30 (by decide) ?_
    have he := Option.some.inj hf
    subst he
    exact hret _ _ _ _ dX8_holds_31 rfl hP hD hS
  · have hf := if_f hf hc1
    refine lv_aload_n hx hb dX8_holds_8 rfl (lv_at hl 0 rfl) ?_
    refine lv_iload_n hx hb dX8_holds_9 rfl (lv_at hl 2 rfl) ?_
    obtain ⟨u2, hu2, hf⟩ := bd_some hf
    refine cl_iV (As := [.int v2]) (rest := []) ⟨hx, hb, hml, hown, hts⟩ (c_X8_isPan l D cI cZ cR a_m a_m_told a_m_text a_m_draft a_m_s a_m_past a_m_images a_m_kept a_m_notes a_m_noted a_m_held a_m_few m_trace m_typed m_known m_many m_at m_sort m_start m_value m_told v2 u2 hu2) (cw_X8_holds_X8_isPan_104 hts) hE hP hD hS hA [0, 1] rfl rfl [a_m, a_m_told] rfl rfl 0 8 rfl rfl rfl hl.1 rfl (Nat.le_of_ble_eq_true rfl) dX8_holds_10 ⟨Nat.zero_le _, Nat.zero_le _⟩ (fun H locs hP hD hS => ?_)
    have hPD : PD D A [(a_m, .inr (8, [.long m_trace, .ref a_m_text, .int m_typed, .ref a_m_told, .ref a_m_draft, .ref a_m_s, .ref a_m_past, .int m_known, .ref a_m_images, .ref a_m_kept, .ref a_m_notes, .ref a_m_noted, .int m_many, .int m_at, .int m_sort, .int m_start, .int m_value, .ref a_m_held, .ref a_m_few])), (a_m_told, .inl (cI, 33, .inl m_told)), (a_m_s, .inl (cI, 51, .inl m_s))] H := ⟨hP, hD⟩
    obtain ⟨hP, hD⟩ := hPD
    refine lv_if_eq (tgt := 30) hx hb dX8_holds_13 (by decide) (fun hc2 => ?_) (fun hc2 => ?_)
    · have hf := if_t hf hc2
      refine lv_iconst (v := (-1)) hx hb dX8_holds_30 (by decide) ?_
      have he := Option.some.inj hf
      subst he
      exact hret _ _ _ _ dX8_holds_31 rfl hP hD hS
    · have hf := if_f hf hc2
      refine lv_aload_n hx hb dX8_holds_16 rfl (lv_at hl 0 rfl) ?_
      refine va_get (D := D) (ci := 8) (v := .ref a_m_s) (C := RX8) (T := TX8) (N := 19) hx hb hts hiX8_holds_8 hown hE.1 hP 0 rfl rfl 5 (by decide) fL19 (fun _ h9 => h9) rfl dX8_holds_17 ?_
      refine lv_bipush (v := 7) hx hb dX8_holds_20 (by decide) ?_
      refine lv_iload_n hx hb dX8_holds_22 rfl (lv_at hl 1 rfl) ?_
      refine lv_imul hx hb dX8_holds_23 ?_
      refine lv_iload_n hx hb dX8_holds_24 rfl (lv_at hl 2 rfl) ?_
      refine lv_iadd hx hb dX8_holds_25 ?_
      obtain ⟨hc3, hf⟩ := ck_some hf
      refine va_iald hx hb hE.1 hP 2 0 rfl rfl (ix_in hc3) dX8_holds_26 ?_
      refine lv_goto (tgt := 31) hx hb dX8_holds_27 (by decide) ?_
      have he := Option.some.inj hf
      subst he
      exact hret _ _ _ _ dX8_holds_31 rfl hP hD hS
abbrev rmX8_all : Room := { frames := 1, cells := 0, slots := 0, locals := 23 }
theorem hiX8_all_8 : ∀ w ∈ wsX80, w ∈ wsX8_all := fun w h => (goodIn_r (big := wsX8_all) wsX80 [8, 9, 10, 11, 12, 13, 14, 15, 16, 17, 18, 19, 20, 21, 22, 23, 24, 25, 26] rfl (by decide +kernel) w h).1
theorem cw_X8_all_X8_full_98 {s : State} {args : Array Value} (hts : ∀ x ∈ wsX8_all, x.before args s = true) : CallW rmX8_all s args RX8 RX8 98 yX8_full cX8_full 4 (some .int) wsX8_full rmX8_full 0 0 1 := cwV 1 hts gX8_all_X8_full rfl rfl rfl (by decide +kernel) ⟨Nat.le_of_ble_eq_true rfl, Nat.le_of_ble_eq_true rfl⟩
set_option maxRecDepth 100000 in
set_option maxHeartbeats 4000000 in
theorem c_X8_all (l : Launch) (D : va_G) (cI cZ cR : ClassId) (a_m : Nat) (a_m_told : Nat) (a_m_s : Nat) (a_m_text : Nat) (a_m_draft : Nat) (a_m_past : Nat) (a_m_images : Nat) (a_m_kept : Nat) (a_m_notes : Nat) (a_m_noted : Nat) (a_m_held : Nat) (a_m_few : Nat) (m_trace : Int64) (m_typed : Int32) (m_known : Int32) (m_many : Int32) (m_at : Int32) (m_sort : Int32) (m_start : Int32) (m_value : Int32) (m_told : Nat → Int32) (m_s : Nat → Int32) (out : Int32) (hf : f_X8_all m_told m_s = some out) : Ci l yX8_all wsX8_all rmX8_all D cI cZ cR [.ref a_m] [(a_m, .inr (8, [.long m_trace, .ref a_m_text, .int m_typed, .ref a_m_told, .ref a_m_draft, .ref a_m_s, .ref a_m_past, .int m_known, .ref a_m_images, .ref a_m_kept, .ref a_m_notes, .ref a_m_noted, .int m_many, .int m_at, .int m_sort, .int m_start, .int m_value, .ref a_m_held, .ref a_m_few])), (a_m_told, .inl (cI, 33, .inl m_told)), (a_m_s, .inl (cI, 51, .inl m_s))] out [(a_m, .inr (8, [.long m_trace, .ref a_m_text, .int m_typed, .ref a_m_told, .ref a_m_draft, .ref a_m_s, .ref a_m_past, .int m_known, .ref a_m_images, .ref a_m_kept, .ref a_m_notes, .ref a_m_noted, .int m_many, .int m_at, .int m_sort, .int m_start, .int m_value, .ref a_m_held, .ref a_m_few])), (a_m_told, .inl (cI, 33, .inl m_told)), (a_m_s, .inl (cI, 51, .inl m_s))] := by
  refine ent_i (cc := cX8_all) (maxL := 3) .int (by decide) rfl (Nat.le_of_ble_eq_true rfl) ?_
  intro p e s m below meth c A Q hx hb hml hown hts hE hA hP hD hS hret ls hl
  have hown : s.vm.findClass RX8 = some m.cls := hown
  have hl : lv_has ls 3 [(0, .ref a_m)] := hl
  have fL13 := hts (.fieldLink RX8 13 "RainShelvesModel" "told" "[I") (List.mem_of_getElem? (i := 1) rfl)
  unfold f_X8_all at hf
  have L4 : ∀ (n4 : Nat) (v1_4 : Int32) (v2_4 : Int32), f_X8_all_L4 m_told m_s n4 v1_4 v2_4 = some out → ∀ (H : Heap) (locs : List Loc) (ls : Array Slot), PD D A [(a_m, .inr (8, [.long m_trace, .ref a_m_text, .int m_typed, .ref a_m_told, .ref a_m_draft, .ref a_m_s, .ref a_m_past, .int m_known, .ref a_m_images, .ref a_m_kept, .ref a_m_notes, .ref a_m_noted, .int m_many, .int m_at, .int m_sort, .int m_start, .int m_value, .ref a_m_held, .ref a_m_few])), (a_m_told, .inl (cI, 33, .inl m_told)), (a_m_s, .inl (cI, 51, .inl m_s))] H → va_S A s.heap H locs → lv_has ls 3 [(0, .ref a_m), (1, .int v1_4), (2, .int v2_4)] → W p l e rmX8_all s m ([.ref a_m] : List Value).toArray below meth c H locs 0 0 Q (F0 m 4 ls []) := by
    intro  n4
    induction n4 with
    | zero => intro v1_4 v2_4 hf; cases hf
    | succ n4 ih4 =>
      intro v1_4 v2_4 hf H locs ls hPD hS hl
      obtain ⟨hP, hD⟩ := hPD
      have hf : f_X8_all_B4 m_told m_s (f_X8_all_L4 m_told m_s n4) v1_4 v2_4 = some out := hf
      unfold f_X8_all_B4 at hf
      refine lv_iload_n hx hb dX8_all_4 rfl (lv_at hl 2 rfl) ?_
      refine lv_aload_n hx hb dX8_all_5 rfl (lv_at hl 0 rfl) ?_
      refine va_get (D := D) (ci := 8) (v := .ref a_m_told) (C := RX8) (T := TX8) (N := 19) hx hb hts hiX8_all_8 hown hE.1 hP 0 rfl rfl 3 (by decide) fL13 (fun _ h9 => h9) rfl dX8_all_6 ?_
      refine lv_iconst (v := 0) hx hb dX8_all_9 (by decide) ?_
      obtain ⟨hc1, hf⟩ := ck_some hf
      refine va_iald hx hb hE.1 hP 1 0 rfl rfl (ix_in hc1) dX8_all_10 ?_
      refine lv_icmp_ge (tgt := 28) hx hb dX8_all_11 (by decide) (fun hc2 => ?_) (fun hc2 => ?_)
      · have hf := if_t hf hc2
        refine lv_iload_n hx hb dX8_all_28 rfl (lv_at hl 1 rfl) ?_
        have he := Option.some.inj hf
        subst he
        exact hret _ _ _ _ dX8_all_29 rfl hP hD hS
      · have hf := if_f hf hc2
        refine lv_iload_n hx hb dX8_all_14 rfl (lv_at hl 1 rfl) ?_
        refine lv_aload_n hx hb dX8_all_15 rfl (lv_at hl 0 rfl) ?_
        refine lv_iload_n hx hb dX8_all_16 rfl (lv_at hl 2 rfl) ?_
        obtain ⟨u1, hu1, hf⟩ := bd_some hf
        refine cl_iV (As := [.int v2_4]) (rest := [.int v1_4]) ⟨hx, hb, hml, hown, hts⟩ (c_X8_full l D cI cZ cR a_m a_m_s a_m_text a_m_told a_m_draft a_m_past a_m_images a_m_kept a_m_notes a_m_noted a_m_held a_m_few m_trace m_typed m_known m_many m_at m_sort m_start m_value m_s v2_4 u1 hu1) (cw_X8_all_X8_full_98 hts) hE hP hD hS hA [0, 2] rfl rfl [a_m, a_m_s] rfl rfl 0 8 rfl rfl rfl hl.1 rfl (Nat.le_of_ble_eq_true rfl) dX8_all_17 ⟨Nat.zero_le _, Nat.zero_le _⟩ (fun H locs hP hD hS => ?_)
        have hPD : PD D A [(a_m, .inr (8, [.long m_trace, .ref a_m_text, .int m_typed, .ref a_m_told, .ref a_m_draft, .ref a_m_s, .ref a_m_past, .int m_known, .ref a_m_images, .ref a_m_kept, .ref a_m_notes, .ref a_m_noted, .int m_many, .int m_at, .int m_sort, .int m_start, .int m_value, .ref a_m_held, .ref a_m_few])), (a_m_told, .inl (cI, 33, .inl m_told)), (a_m_s, .inl (cI, 51, .inl m_s))] H := ⟨hP, hD⟩
        obtain ⟨hP, hD⟩ := hPD
        refine lv_iadd hx hb dX8_all_20 ?_
        refine lv_istore_n (lv' := [(1, .int (v1_4 + u1)), (0, .ref a_m), (2, .int v2_4)]) hx hb dX8_all_21 rfl hl (by decide) rfl (fun ls hl => ?_)
        refine lv_iinc (v := (v2_4 + 1)) (lv' := [(2, .int (v2_4 + 1)), (1, .int (v1_4 + u1)), (0, .ref a_m)]) hx hb dX8_all_22 hl (k := 2) rfl (ii_p1 _) (by decide) rfl (fun ls hl => ?_)
        refine lv_goto (tgt := 4) hx hb dX8_all_25 (by decide) ?_
        exact ih4 (v1_4 + u1) (v2_4 + 1) hf _ _ _ ⟨hP, hD⟩ hS (lv_sub hl [2, 1, 0] rfl)
  refine lv_iconst (v := 0) hx hb dX8_all_0 (by decide) ?_
  refine lv_istore_n (lv' := [(1, .int 0), (0, .ref a_m)]) hx hb dX8_all_1 rfl hl (by decide) rfl (fun ls hl => ?_)
  refine lv_iconst (v := 0) hx hb dX8_all_2 (by decide) ?_
  refine lv_istore_n (lv' := [(2, .int 0), (1, .int 0), (0, .ref a_m)]) hx hb dX8_all_3 rfl hl (by decide) rfl (fun ls hl => ?_)
  exact L4  FU 0 0 hf _ _ _ ⟨hP, hD⟩ hS (lv_sub hl [2, 1, 0] rfl)
abbrev rmX8_wettest : Room := { frames := 0, cells := 0, slots := 0, locals := 0 }
theorem hiX8_wettest_8 : ∀ w ∈ wsX80, w ∈ wsX8_wettest := fun w h => (goodIn_r (big := wsX8_wettest) wsX80 [3, 4, 5, 6, 7, 8, 9, 10, 11, 12, 13, 14, 15, 16, 17, 18, 19, 20, 21] rfl (by decide +kernel) w h).1
set_option maxRecDepth 100000 in
set_option maxHeartbeats 4000000 in
theorem c_X8_wettest (l : Launch) (D : va_G) (cI cZ cR : ClassId) (a_m : Nat) (a_m_told : Nat) (a_m_s : Nat) (a_m_text : Nat) (a_m_draft : Nat) (a_m_past : Nat) (a_m_images : Nat) (a_m_kept : Nat) (a_m_notes : Nat) (a_m_noted : Nat) (a_m_held : Nat) (a_m_few : Nat) (m_trace : Int64) (m_typed : Int32) (m_known : Int32) (m_many : Int32) (m_at : Int32) (m_sort : Int32) (m_start : Int32) (m_value : Int32) (m_told : Nat → Int32) (m_s : Nat → Int32) (out : Int32) (hf : f_X8_wettest m_told m_s = some out) : Ci l yX8_wettest wsX8_wettest rmX8_wettest D cI cZ cR [.ref a_m] [(a_m, .inr (8, [.long m_trace, .ref a_m_text, .int m_typed, .ref a_m_told, .ref a_m_draft, .ref a_m_s, .ref a_m_past, .int m_known, .ref a_m_images, .ref a_m_kept, .ref a_m_notes, .ref a_m_noted, .int m_many, .int m_at, .int m_sort, .int m_start, .int m_value, .ref a_m_held, .ref a_m_few])), (a_m_told, .inl (cI, 33, .inl m_told)), (a_m_s, .inl (cI, 51, .inl m_s))] out [(a_m, .inr (8, [.long m_trace, .ref a_m_text, .int m_typed, .ref a_m_told, .ref a_m_draft, .ref a_m_s, .ref a_m_past, .int m_known, .ref a_m_images, .ref a_m_kept, .ref a_m_notes, .ref a_m_noted, .int m_many, .int m_at, .int m_sort, .int m_start, .int m_value, .ref a_m_held, .ref a_m_few])), (a_m_told, .inl (cI, 33, .inl m_told)), (a_m_s, .inl (cI, 51, .inl m_s))] := by
  refine ent_i (cc := cX8_wettest) (maxL := 7) .int (by decide) rfl (Nat.le_of_ble_eq_true rfl) ?_
  intro p e s m below meth c A Q hx hb hml hown hts hE hA hP hD hS hret ls hl
  have hown : s.vm.findClass RX8 = some m.cls := hown
  have hl : lv_has ls 7 [(0, .ref a_m)] := hl
  have fL13 := hts (.fieldLink RX8 13 "RainShelvesModel" "told" "[I") (List.mem_of_getElem? (i := 1) rfl)
  have fL19 := hts (.fieldLink RX8 19 "RainShelvesModel" "s" "[I") (List.mem_of_getElem? (i := 2) rfl)
  unfold f_X8_wettest at hf
  have L7 : ∀ (n7 : Nat) (v1_7 : Int32) (v2_7 : Int32) (v3_7 : Int32), f_X8_wettest_L7 m_told m_s n7 v1_7 v2_7 v3_7 = some out → ∀ (H : Heap) (locs : List Loc) (ls : Array Slot), PD D A [(a_m, .inr (8, [.long m_trace, .ref a_m_text, .int m_typed, .ref a_m_told, .ref a_m_draft, .ref a_m_s, .ref a_m_past, .int m_known, .ref a_m_images, .ref a_m_kept, .ref a_m_notes, .ref a_m_noted, .int m_many, .int m_at, .int m_sort, .int m_start, .int m_value, .ref a_m_held, .ref a_m_few])), (a_m_told, .inl (cI, 33, .inl m_told)), (a_m_s, .inl (cI, 51, .inl m_s))] H → va_S A s.heap H locs → lv_has ls 7 [(0, .ref a_m), (1, .int v1_7), (2, .int v2_7), (3, .int v3_7)] → W p l e rmX8_wettest s m ([.ref a_m] : List Value).toArray below meth c H locs 0 0 Q (F0 m 7 ls []) := by
    intro  n7
    induction n7 with
    | zero => intro v1_7 v2_7 v3_7 hf; cases hf
    | succ n7 ih7 =>
      intro v1_7 v2_7 v3_7 hf H locs ls hPD hS hl
      obtain ⟨hP, hD⟩ := hPD
      have hf : f_X8_wettest_B7 m_told m_s (f_X8_wettest_L7 m_told m_s n7) v1_7 v2_7 v3_7 = some out := hf
      unfold f_X8_wettest_B7 at hf
      have J155 : ∀ (v4_155 : Int32) (v5_155 : Int32) (s0_155 : Int32), f_X8_wettest_J155 v2_7 v3_7 (f_X8_wettest_L7 m_told m_s n7) v4_155 v5_155 s0_155 = some out → ∀ (H : Heap) (locs : List Loc) (ls : Array Slot), PD D A [(a_m, .inr (8, [.long m_trace, .ref a_m_text, .int m_typed, .ref a_m_told, .ref a_m_draft, .ref a_m_s, .ref a_m_past, .int m_known, .ref a_m_images, .ref a_m_kept, .ref a_m_notes, .ref a_m_noted, .int m_many, .int m_at, .int m_sort, .int m_start, .int m_value, .ref a_m_held, .ref a_m_few])), (a_m_told, .inl (cI, 33, .inl m_told)), (a_m_s, .inl (cI, 51, .inl m_s))] H → va_S A s.heap H locs → lv_has ls 7 [(0, .ref a_m), (2, .int v2_7), (3, .int v3_7), (4, .int v4_155), (5, .int v5_155)] → W p l e rmX8_wettest s m ([.ref a_m] : List Value).toArray below meth c H locs 0 0 Q (F0 m 155 ls [.int s0_155]) := by
        intro v4_155 v5_155 s0_155 hf H locs ls hPD hS hl
        obtain ⟨hP, hD⟩ := hPD
        unfold f_X8_wettest_J155 at hf
        refine lv_istore_n (lv' := [(1, .int s0_155), (0, .ref a_m), (2, .int v2_7), (3, .int v3_7), (4, .int v4_155), (5, .int v5_155)]) hx hb dX8_wettest_155 rfl hl (by decide) rfl (fun ls hl => ?_)
        refine lv_iload hx hb dX8_wettest_156 (lv_at hl 5 rfl) ?_
        refine lv_if_eq (tgt := 166) hx hb dX8_wettest_158 (by decide) (fun hc1 => ?_) (fun hc1 => ?_)
        · have hf := if_t hf hc1
          refine lv_iload_n hx hb dX8_wettest_166 rfl (lv_at hl 2 rfl) ?_
          refine lv_istore_n (lv' := [(2, .int v2_7), (1, .int s0_155), (0, .ref a_m), (3, .int v3_7), (4, .int v4_155), (5, .int v5_155)]) hx hb dX8_wettest_167 rfl hl (by decide) rfl (fun ls hl => ?_)
          refine lv_iinc (v := (v3_7 + 1)) (lv' := [(3, .int (v3_7 + 1)), (2, .int v2_7), (1, .int s0_155), (0, .ref a_m), (4, .int v4_155), (5, .int v5_155)]) hx hb dX8_wettest_168 hl (k := 3) rfl (ii_p1 _) (by decide) rfl (fun ls hl => ?_)
          refine lv_goto (tgt := 7) hx hb dX8_wettest_171 (by decide) ?_
          exact ih7 s0_155 v2_7 (v3_7 + 1) hf _ _ _ ⟨hP, hD⟩ hS (lv_sub hl [3, 2, 1, 0] rfl)
        · have hf := if_f hf hc1
          refine lv_iload hx hb dX8_wettest_161 (lv_at hl 4 rfl) ?_
          refine lv_goto (tgt := 167) hx hb dX8_wettest_163 (by decide) ?_
          refine lv_istore_n (lv' := [(2, .int v4_155), (1, .int s0_155), (0, .ref a_m), (3, .int v3_7), (4, .int v4_155), (5, .int v5_155)]) hx hb dX8_wettest_167 rfl hl (by decide) rfl (fun ls hl => ?_)
          refine lv_iinc (v := (v3_7 + 1)) (lv' := [(3, .int (v3_7 + 1)), (2, .int v4_155), (1, .int s0_155), (0, .ref a_m), (4, .int v4_155), (5, .int v5_155)]) hx hb dX8_wettest_168 hl (k := 3) rfl (ii_p1 _) (by decide) rfl (fun ls hl => ?_)
          refine lv_goto (tgt := 7) hx hb dX8_wettest_171 (by decide) ?_
          exact ih7 s0_155 v4_155 (v3_7 + 1) hf _ _ _ ⟨hP, hD⟩ hS (lv_sub hl [3, 2, 1, 0] rfl)
      have J136 : ∀ (v4_136 : Int32) (s0_136 : Int32), f_X8_wettest_J136 m_told v1_7 v2_7 v3_7 (f_X8_wettest_L7 m_told m_s n7) v4_136 s0_136 = some out → ∀ (H : Heap) (locs : List Loc) (ls : Array Slot), PD D A [(a_m, .inr (8, [.long m_trace, .ref a_m_text, .int m_typed, .ref a_m_told, .ref a_m_draft, .ref a_m_s, .ref a_m_past, .int m_known, .ref a_m_images, .ref a_m_kept, .ref a_m_notes, .ref a_m_noted, .int m_many, .int m_at, .int m_sort, .int m_start, .int m_value, .ref a_m_held, .ref a_m_few])), (a_m_told, .inl (cI, 33, .inl m_told)), (a_m_s, .inl (cI, 51, .inl m_s))] H → va_S A s.heap H locs → lv_has ls 7 [(0, .ref a_m), (1, .int v1_7), (2, .int v2_7), (3, .int v3_7), (4, .int v4_136)] → W p l e rmX8_wettest s m ([.ref a_m] : List Value).toArray below meth c H locs 0 0 Q (F0 m 136 ls [.int s0_136]) := by
        intro v4_136 s0_136 hf H locs ls hPD hS hl
        obtain ⟨hP, hD⟩ := hPD
        unfold f_X8_wettest_J136 at hf
        refine lv_istore (lv' := [(5, .int s0_136), (0, .ref a_m), (1, .int v1_7), (2, .int v2_7), (3, .int v3_7), (4, .int v4_136)]) hx hb dX8_wettest_136 hl (by decide) rfl (fun ls hl => ?_)
        refine lv_iload hx hb dX8_wettest_138 (lv_at hl 0 rfl) ?_
        refine lv_if_eq (tgt := 154) hx hb dX8_wettest_140 (by decide) (fun hc2 => ?_) (fun hc2 => ?_)
        · have hf := if_t hf hc2
          refine lv_iload_n hx hb dX8_wettest_154 rfl (lv_at hl 2 rfl) ?_
          exact J155 v4_136 s0_136 v1_7 hf _ _ _ ⟨hP, hD⟩ hS (lv_sub hl [1, 3, 4, 5, 0] rfl)
        · have hf := if_f hf hc2
          refine lv_aload_n hx hb dX8_wettest_143 rfl (lv_at hl 1 rfl) ?_
          refine va_get (D := D) (ci := 8) (v := .ref a_m_told) (C := RX8) (T := TX8) (N := 19) hx hb hts hiX8_wettest_8 hown hE.1 hP 0 rfl rfl 3 (by decide) fL13 (fun _ h9 => h9) rfl dX8_wettest_144 ?_
          refine lv_iconst (v := 5) hx hb dX8_wettest_147 (by decide) ?_
          refine lv_iload_n hx hb dX8_wettest_148 rfl (lv_at hl 4 rfl) ?_
          refine lv_iadd hx hb dX8_wettest_149 ?_
          obtain ⟨hc3, hf⟩ := ck_some hf
          refine va_iald hx hb hE.1 hP 1 0 rfl rfl (ix_in hc3) dX8_wettest_150 ?_
          refine lv_goto (tgt := 155) hx hb dX8_wettest_151 (by decide) ?_
          exact J155 v4_136 s0_136 (m_told (5 + v3_7).toNatClampNeg) hf _ _ _ ⟨hP, hD⟩ hS (lv_sub hl [1, 3, 4, 5, 0] rfl)
      have J102 : ∀ (v4_102 : Int32), f_X8_wettest_J102 m_told v1_7 v2_7 v3_7 (f_X8_wettest_L7 m_told m_s n7) v4_102 = some out → ∀ (H : Heap) (locs : List Loc) (ls : Array Slot), PD D A [(a_m, .inr (8, [.long m_trace, .ref a_m_text, .int m_typed, .ref a_m_told, .ref a_m_draft, .ref a_m_s, .ref a_m_past, .int m_known, .ref a_m_images, .ref a_m_kept, .ref a_m_notes, .ref a_m_noted, .int m_many, .int m_at, .int m_sort, .int m_start, .int m_value, .ref a_m_held, .ref a_m_few])), (a_m_told, .inl (cI, 33, .inl m_told)), (a_m_s, .inl (cI, 51, .inl m_s))] H → va_S A s.heap H locs → lv_has ls 7 [(0, .ref a_m), (1, .int v1_7), (2, .int v2_7), (3, .int v3_7), (4, .int v4_102)] → W p l e rmX8_wettest s m ([.ref a_m] : List Value).toArray below meth c H locs 0 0 Q (F0 m 102 ls []) := by
        intro v4_102 hf H locs ls hPD hS hl
        obtain ⟨hP, hD⟩ := hPD
        unfold f_X8_wettest_J102 at hf
        refine lv_iload hx hb dX8_wettest_102 (lv_at hl 4 rfl) ?_
        refine lv_iload_n hx hb dX8_wettest_104 rfl (lv_at hl 2 rfl) ?_
        refine lv_icmp_gt (tgt := 131) hx hb dX8_wettest_105 (by decide) (fun hc4 => ?_) (fun hc4 => ?_)
        · have hf := if_t hf hc4
          refine lv_iconst (v := 1) hx hb dX8_wettest_131 (by decide) ?_
          refine lv_goto (tgt := 136) hx hb dX8_wettest_132 (by decide) ?_
          exact J136 v4_102 1 hf _ _ _ ⟨hP, hD⟩ hS hl
        · have hf := if_f hf hc4
          refine lv_iload hx hb dX8_wettest_108 (lv_at hl 4 rfl) ?_
          refine lv_iload_n hx hb dX8_wettest_110 rfl (lv_at hl 2 rfl) ?_
          refine lv_icmp_ne (tgt := 135) hx hb dX8_wettest_111 (by decide) (fun hc5 => ?_) (fun hc5 => ?_)
          · have hf := if_f hf hc5
            refine lv_iconst (v := 0) hx hb dX8_wettest_135 (by decide) ?_
            exact J136 v4_102 0 hf _ _ _ ⟨hP, hD⟩ hS hl
          · have hf := if_t hf hc5
            refine lv_iload hx hb dX8_wettest_114 (lv_at hl 4 rfl) ?_
            refine lv_if_le (tgt := 135) hx hb dX8_wettest_116 (by decide) (fun hc6 => ?_) (fun hc6 => ?_)
            · have hf := if_t hf hc6
              refine lv_iconst (v := 0) hx hb dX8_wettest_135 (by decide) ?_
              exact J136 v4_102 0 hf _ _ _ ⟨hP, hD⟩ hS hl
            · have hf := if_f hf hc6
              refine lv_aload_n hx hb dX8_wettest_119 rfl (lv_at hl 0 rfl) ?_
              refine va_get (D := D) (ci := 8) (v := .ref a_m_told) (C := RX8) (T := TX8) (N := 19) hx hb hts hiX8_wettest_8 hown hE.1 hP 0 rfl rfl 3 (by decide) fL13 (fun _ h9 => h9) rfl dX8_wettest_120 ?_
              refine lv_iconst (v := 5) hx hb dX8_wettest_123 (by decide) ?_
              refine lv_iload_n hx hb dX8_wettest_124 rfl (lv_at hl 3 rfl) ?_
              refine lv_iadd hx hb dX8_wettest_125 ?_
              obtain ⟨hc7, hf⟩ := ck_some hf
              refine va_iald hx hb hE.1 hP 1 0 rfl rfl (ix_in hc7) dX8_wettest_126 ?_
              refine lv_iload_n hx hb dX8_wettest_127 rfl (lv_at hl 1 rfl) ?_
              refine lv_icmp_ge (tgt := 135) hx hb dX8_wettest_128 (by decide) (fun hc8 => ?_) (fun hc8 => ?_)
              · have hf := if_t hf hc8
                refine lv_iconst (v := 0) hx hb dX8_wettest_135 (by decide) ?_
                exact J136 v4_102 0 hf _ _ _ ⟨hP, hD⟩ hS hl
              · have hf := if_f hf hc8
                refine lv_iconst (v := 1) hx hb dX8_wettest_131 (by decide) ?_
                refine lv_goto (tgt := 136) hx hb dX8_wettest_132 (by decide) ?_
                exact J136 v4_102 1 hf _ _ _ ⟨hP, hD⟩ hS hl
      have L23 : ∀ (n23 : Nat) (v4_23 : Int32) (v5_23 : Int32), f_X8_wettest_L23 m_told m_s v1_7 v2_7 v3_7 (f_X8_wettest_L7 m_told m_s n7) n23 v4_23 v5_23 = some out → ∀ (H : Heap) (locs : List Loc) (ls : Array Slot), PD D A [(a_m, .inr (8, [.long m_trace, .ref a_m_text, .int m_typed, .ref a_m_told, .ref a_m_draft, .ref a_m_s, .ref a_m_past, .int m_known, .ref a_m_images, .ref a_m_kept, .ref a_m_notes, .ref a_m_noted, .int m_many, .int m_at, .int m_sort, .int m_start, .int m_value, .ref a_m_held, .ref a_m_few])), (a_m_told, .inl (cI, 33, .inl m_told)), (a_m_s, .inl (cI, 51, .inl m_s))] H → va_S A s.heap H locs → lv_has ls 7 [(0, .ref a_m), (1, .int v1_7), (2, .int v2_7), (3, .int v3_7), (4, .int v4_23), (5, .int v5_23)] → W p l e rmX8_wettest s m ([.ref a_m] : List Value).toArray below meth c H locs 0 0 Q (F0 m 23 ls []) := by
        intro  n23
        induction n23 with
        | zero => intro v4_23 v5_23 hf; cases hf
        | succ n23 ih23 =>
          intro v4_23 v5_23 hf H locs ls hPD hS hl
          obtain ⟨hP, hD⟩ := hPD
          have hf : f_X8_wettest_B23 m_told m_s v1_7 v2_7 v3_7 (f_X8_wettest_L7 m_told m_s n7) (f_X8_wettest_L23 m_told m_s v1_7 v2_7 v3_7 (f_X8_wettest_L7 m_told m_s n7) n23) v4_23 v5_23 = some out := hf
          unfold f_X8_wettest_B23 at hf
          have L37 : ∀ (n37 : Nat) (v4_37 : Int32) (v6_37 : Int32), f_X8_wettest_L37 m_told m_s v3_7 v5_23 (f_X8_wettest_L23 m_told m_s v1_7 v2_7 v3_7 (f_X8_wettest_L7 m_told m_s n7) n23) n37 v4_37 v6_37 = some out → ∀ (H : Heap) (locs : List Loc) (ls : Array Slot), PD D A [(a_m, .inr (8, [.long m_trace, .ref a_m_text, .int m_typed, .ref a_m_told, .ref a_m_draft, .ref a_m_s, .ref a_m_past, .int m_known, .ref a_m_images, .ref a_m_kept, .ref a_m_notes, .ref a_m_noted, .int m_many, .int m_at, .int m_sort, .int m_start, .int m_value, .ref a_m_held, .ref a_m_few])), (a_m_told, .inl (cI, 33, .inl m_told)), (a_m_s, .inl (cI, 51, .inl m_s))] H → va_S A s.heap H locs → lv_has ls 7 [(0, .ref a_m), (1, .int v1_7), (2, .int v2_7), (3, .int v3_7), (4, .int v4_37), (5, .int v5_23), (6, .int v6_37)] → W p l e rmX8_wettest s m ([.ref a_m] : List Value).toArray below meth c H locs 0 0 Q (F0 m 37 ls []) := by
            intro  n37
            induction n37 with
            | zero => intro v4_37 v6_37 hf; cases hf
            | succ n37 ih37 =>
              intro v4_37 v6_37 hf H locs ls hPD hS hl
              obtain ⟨hP, hD⟩ := hPD
              have hf : f_X8_wettest_B37 m_told m_s v3_7 v5_23 (f_X8_wettest_L23 m_told m_s v1_7 v2_7 v3_7 (f_X8_wettest_L7 m_told m_s n7) n23) (f_X8_wettest_L37 m_told m_s v3_7 v5_23 (f_X8_wettest_L23 m_told m_s v1_7 v2_7 v3_7 (f_X8_wettest_L7 m_told m_s n7) n23) n37) v4_37 v6_37 = some out := hf
              unfold f_X8_wettest_B37 at hf
              refine lv_iload hx hb dX8_wettest_37 (lv_at hl 6 rfl) ?_
              refine lv_aload_n hx hb dX8_wettest_39 rfl (lv_at hl 0 rfl) ?_
              refine va_get (D := D) (ci := 8) (v := .ref a_m_told) (C := RX8) (T := TX8) (N := 19) hx hb hts hiX8_wettest_8 hown hE.1 hP 0 rfl rfl 3 (by decide) fL13 (fun _ h9 => h9) rfl dX8_wettest_40 ?_
              refine lv_iconst (v := 0) hx hb dX8_wettest_43 (by decide) ?_
              obtain ⟨hc9, hf⟩ := ck_some hf
              refine va_iald hx hb hE.1 hP 1 0 rfl rfl (ix_in hc9) dX8_wettest_44 ?_
              refine lv_icmp_ge (tgt := 96) hx hb dX8_wettest_45 (by decide) (fun hc10 => ?_) (fun hc10 => ?_)
              · have hf := if_t hf hc10
                refine lv_iinc (v := (v5_23 + 1)) (lv' := [(5, .int (v5_23 + 1)), (0, .ref a_m), (1, .int v1_7), (2, .int v2_7), (3, .int v3_7), (4, .int v4_37), (6, .int v6_37)]) hx hb dX8_wettest_96 hl (k := 5) rfl (ii_p1 _) (by decide) rfl (fun ls hl => ?_)
                refine lv_goto (tgt := 23) hx hb dX8_wettest_99 (by decide) ?_
                exact ih23 v4_37 (v5_23 + 1) hf _ _ _ ⟨hP, hD⟩ hS (lv_sub hl [1, 2, 3, 4, 5, 0] rfl)
              · have hf := if_f hf hc10
                refine lv_iload hx hb dX8_wettest_48 (lv_at hl 4 rfl) ?_
                refine lv_aload_n hx hb dX8_wettest_50 rfl (lv_at hl 0 rfl) ?_
                refine va_get (D := D) (ci := 8) (v := .ref a_m_told) (C := RX8) (T := TX8) (N := 19) hx hb hts hiX8_wettest_8 hown hE.1 hP 0 rfl rfl 3 (by decide) fL13 (fun _ h9 => h9) rfl dX8_wettest_51 ?_
                refine lv_iconst (v := 5) hx hb dX8_wettest_54 (by decide) ?_
                refine lv_iload hx hb dX8_wettest_55 (lv_at hl 5 rfl) ?_
                refine lv_iadd hx hb dX8_wettest_57 ?_
                obtain ⟨hc11, hf⟩ := ck_some hf
                refine va_iald hx hb hE.1 hP 1 0 rfl rfl (ix_in hc11) dX8_wettest_58 ?_
                refine lv_aload_n hx hb dX8_wettest_59 rfl (lv_at hl 0 rfl) ?_
                refine va_get (D := D) (ci := 8) (v := .ref a_m_told) (C := RX8) (T := TX8) (N := 19) hx hb hts hiX8_wettest_8 hown hE.1 hP 0 rfl rfl 3 (by decide) fL13 (fun _ h9 => h9) rfl dX8_wettest_60 ?_
                refine lv_iconst (v := 5) hx hb dX8_wettest_63 (by decide) ?_
                refine lv_iload_n hx hb dX8_wettest_64 rfl (lv_at hl 3 rfl) ?_
                refine lv_iadd hx hb dX8_wettest_65 ?_
                obtain ⟨hc12, hf⟩ := ck_some hf
                refine va_iald hx hb hE.1 hP 1 0 rfl rfl (ix_in hc12) dX8_wettest_66 ?_
                refine lv_icmp_ne (tgt := 86) hx hb dX8_wettest_67 (by decide) (fun hc13 => ?_) (fun hc13 => ?_)
                · have hf := if_f hf hc13
                  refine lv_iconst (v := 0) hx hb dX8_wettest_86 (by decide) ?_
                  refine lv_iadd hx hb dX8_wettest_87 ?_
                  refine lv_istore (lv' := [(4, .int (v4_37 + 0)), (0, .ref a_m), (1, .int v1_7), (2, .int v2_7), (3, .int v3_7), (5, .int v5_23), (6, .int v6_37)]) hx hb dX8_wettest_88 hl (by decide) rfl (fun ls hl => ?_)
                  refine lv_iinc (v := (v6_37 + 1)) (lv' := [(6, .int (v6_37 + 1)), (4, .int (v4_37 + 0)), (0, .ref a_m), (1, .int v1_7), (2, .int v2_7), (3, .int v3_7), (5, .int v5_23)]) hx hb dX8_wettest_90 hl (k := 6) rfl (ii_p1 _) (by decide) rfl (fun ls hl => ?_)
                  refine lv_goto (tgt := 37) hx hb dX8_wettest_93 (by decide) ?_
                  exact ih37 (v4_37 + 0) (v6_37 + 1) hf _ _ _ ⟨hP, hD⟩ hS (lv_sub hl [2, 3, 4, 5, 1, 6, 0] rfl)
                · have hf := if_t hf hc13
                  refine lv_aload_n hx hb dX8_wettest_70 rfl (lv_at hl 0 rfl) ?_
                  refine va_get (D := D) (ci := 8) (v := .ref a_m_s) (C := RX8) (T := TX8) (N := 19) hx hb hts hiX8_wettest_8 hown hE.1 hP 0 rfl rfl 5 (by decide) fL19 (fun _ h9 => h9) rfl dX8_wettest_71 ?_
                  refine lv_bipush (v := 7) hx hb dX8_wettest_74 (by decide) ?_
                  refine lv_iload hx hb dX8_wettest_76 (lv_at hl 6 rfl) ?_
                  refine lv_imul hx hb dX8_wettest_78 ?_
                  refine lv_iload hx hb dX8_wettest_79 (lv_at hl 5 rfl) ?_
                  refine lv_iadd hx hb dX8_wettest_81 ?_
                  obtain ⟨hc14, hf⟩ := ck_some hf
                  refine va_iald hx hb hE.1 hP 2 0 rfl rfl (ix_in hc14) dX8_wettest_82 ?_
                  refine lv_goto (tgt := 87) hx hb dX8_wettest_83 (by decide) ?_
                  refine lv_iadd hx hb dX8_wettest_87 ?_
                  refine lv_istore (lv' := [(4, .int (v4_37 + (m_s ((7 * v6_37) + v5_23).toNatClampNeg))), (0, .ref a_m), (1, .int v1_7), (2, .int v2_7), (3, .int v3_7), (5, .int v5_23), (6, .int v6_37)]) hx hb dX8_wettest_88 hl (by decide) rfl (fun ls hl => ?_)
                  refine lv_iinc (v := (v6_37 + 1)) (lv' := [(6, .int (v6_37 + 1)), (4, .int (v4_37 + (m_s ((7 * v6_37) + v5_23).toNatClampNeg))), (0, .ref a_m), (1, .int v1_7), (2, .int v2_7), (3, .int v3_7), (5, .int v5_23)]) hx hb dX8_wettest_90 hl (k := 6) rfl (ii_p1 _) (by decide) rfl (fun ls hl => ?_)
                  refine lv_goto (tgt := 37) hx hb dX8_wettest_93 (by decide) ?_
                  exact ih37 (v4_37 + (m_s ((7 * v6_37) + v5_23).toNatClampNeg)) (v6_37 + 1) hf _ _ _ ⟨hP, hD⟩ hS (lv_sub hl [2, 3, 4, 5, 1, 6, 0] rfl)
          refine lv_iload hx hb dX8_wettest_23 (lv_at hl 5 rfl) ?_
          refine lv_aload_n hx hb dX8_wettest_25 rfl (lv_at hl 0 rfl) ?_
          refine va_get (D := D) (ci := 8) (v := .ref a_m_told) (C := RX8) (T := TX8) (N := 19) hx hb hts hiX8_wettest_8 hown hE.1 hP 0 rfl rfl 3 (by decide) fL13 (fun _ h9 => h9) rfl dX8_wettest_26 ?_
          refine lv_iconst (v := 0) hx hb dX8_wettest_29 (by decide) ?_
          obtain ⟨hc15, hf⟩ := ck_some hf
          refine va_iald hx hb hE.1 hP 1 0 rfl rfl (ix_in hc15) dX8_wettest_30 ?_
          refine lv_icmp_ge (tgt := 102) hx hb dX8_wettest_31 (by decide) (fun hc16 => ?_) (fun hc16 => ?_)
          · have hf := if_t hf hc16
            exact J102 v4_23 hf _ _ _ ⟨hP, hD⟩ hS (lv_sub hl [0, 1, 2, 3, 4] rfl)
          · have hf := if_f hf hc16
            refine lv_iconst (v := 0) hx hb dX8_wettest_34 (by decide) ?_
            refine lv_istore (lv' := [(6, .int 0), (0, .ref a_m), (1, .int v1_7), (2, .int v2_7), (3, .int v3_7), (4, .int v4_23), (5, .int v5_23)]) hx hb dX8_wettest_35 hl (by decide) rfl (fun ls hl => ?_)
            exact L37  FU v4_23 0 hf _ _ _ ⟨hP, hD⟩ hS (lv_sub hl [1, 2, 3, 4, 5, 6, 0] rfl)
      refine lv_iload_n hx hb dX8_wettest_7 rfl (lv_at hl 3 rfl) ?_
      refine lv_aload_n hx hb dX8_wettest_8 rfl (lv_at hl 0 rfl) ?_
      refine va_get (D := D) (ci := 8) (v := .ref a_m_told) (C := RX8) (T := TX8) (N := 19) hx hb hts hiX8_wettest_8 hown hE.1 hP 0 rfl rfl 3 (by decide) fL13 (fun _ h9 => h9) rfl dX8_wettest_9 ?_
      refine lv_iconst (v := 0) hx hb dX8_wettest_12 (by decide) ?_
      obtain ⟨hc17, hf⟩ := ck_some hf
      refine va_iald hx hb hE.1 hP 1 0 rfl rfl (ix_in hc17) dX8_wettest_13 ?_
      refine lv_icmp_ge (tgt := 174) hx hb dX8_wettest_14 (by decide) (fun hc18 => ?_) (fun hc18 => ?_)
      · have hf := if_t hf hc18
        refine lv_iload_n hx hb dX8_wettest_174 rfl (lv_at hl 1 rfl) ?_
        have he := Option.some.inj hf
        subst he
        exact hret _ _ _ _ dX8_wettest_175 rfl hP hD hS
      · have hf := if_f hf hc18
        refine lv_iconst (v := 0) hx hb dX8_wettest_17 (by decide) ?_
        refine lv_istore (lv' := [(4, .int 0), (0, .ref a_m), (1, .int v1_7), (2, .int v2_7), (3, .int v3_7)]) hx hb dX8_wettest_18 hl (by decide) rfl (fun ls hl => ?_)
        refine lv_iconst (v := 0) hx hb dX8_wettest_20 (by decide) ?_
        refine lv_istore (lv' := [(5, .int 0), (4, .int 0), (0, .ref a_m), (1, .int v1_7), (2, .int v2_7), (3, .int v3_7)]) hx hb dX8_wettest_21 hl (by decide) rfl (fun ls hl => ?_)
        exact L23  FU 0 0 hf _ _ _ ⟨hP, hD⟩ hS (lv_sub hl [2, 3, 4, 5, 1, 0] rfl)
  refine lv_bipush (v := (-9)) hx hb dX8_wettest_0 (by decide) ?_
  refine lv_istore_n (lv' := [(1, .int (-9)), (0, .ref a_m)]) hx hb dX8_wettest_2 rfl hl (by decide) rfl (fun ls hl => ?_)
  refine lv_iconst (v := 0) hx hb dX8_wettest_3 (by decide) ?_
  refine lv_istore_n (lv' := [(2, .int 0), (1, .int (-9)), (0, .ref a_m)]) hx hb dX8_wettest_4 rfl hl (by decide) rfl (fun ls hl => ?_)
  refine lv_iconst (v := 0) hx hb dX8_wettest_5 (by decide) ?_
  refine lv_istore_n (lv' := [(3, .int 0), (2, .int 0), (1, .int (-9)), (0, .ref a_m)]) hx hb dX8_wettest_6 rfl hl (by decide) rfl (fun ls hl => ?_)
  exact L7  FU (-9) 0 0 hf _ _ _ ⟨hP, hD⟩ hS (lv_sub hl [3, 2, 1, 0] rfl)
abbrev rmX8_now : Room := { frames := 3, cells := 0, slots := 0, locals := 66 }
theorem hiX8_now_8 : ∀ w ∈ wsX80, w ∈ wsX8_now := fun w h => (goodIn_r (big := wsX8_now) wsX80 [25, 26, 27, 28, 29, 30, 31, 32, 33, 34, 35, 36, 37, 38, 39, 40, 41, 42, 43] rfl (by decide +kernel) w h).1
theorem cw_X8_now_X8_all_107 {s : State} {args : Array Value} (hts : ∀ x ∈ wsX8_now, x.before args s = true) : CallW rmX8_now s args RX8 RX8 107 yX8_all cX8_all 3 (some .int) wsX8_all rmX8_all 0 0 0 := cwV 0 hts gX8_now_X8_all rfl rfl rfl (by decide +kernel) ⟨Nat.le_of_ble_eq_true rfl, Nat.le_of_ble_eq_true rfl⟩
theorem cw_X8_now_X8_allRead_111 {s : State} {args : Array Value} (hts : ∀ x ∈ wsX8_now, x.before args s = true) : CallW rmX8_now s args RX8 RX8 111 yX8_allRead cX8_allRead 3 (some .int) wsX8_allRead rmX8_allRead 0 0 0 := cwV 0 hts gX8_now_X8_allRead rfl rfl rfl (by decide +kernel) ⟨Nat.le_of_ble_eq_true rfl, Nat.le_of_ble_eq_true rfl⟩
theorem cw_X8_now_X8_wettest_114 {s : State} {args : Array Value} (hts : ∀ x ∈ wsX8_now, x.before args s = true) : CallW rmX8_now s args RX8 RX8 114 yX8_wettest cX8_wettest 7 (some .int) wsX8_wettest rmX8_wettest 0 0 0 := cwV 0 hts gX8_now_X8_wettest rfl rfl rfl (by decide +kernel) ⟨Nat.le_of_ble_eq_true rfl, Nat.le_of_ble_eq_true rfl⟩
set_option maxRecDepth 100000 in
set_option maxHeartbeats 4000000 in
theorem c_X8_now (l : Launch) (D : va_G) (cI cZ cR : ClassId) (a_m : Nat) (a_m_told : Nat) (a_m_s : Nat) (a_m_text : Nat) (a_m_draft : Nat) (a_m_past : Nat) (a_m_images : Nat) (a_m_kept : Nat) (a_m_notes : Nat) (a_m_noted : Nat) (a_m_held : Nat) (a_m_few : Nat) (m_trace : Int64) (m_typed : Int32) (m_known : Int32) (m_many : Int32) (m_at : Int32) (m_sort : Int32) (m_start : Int32) (m_value : Int32) (m_told : Nat → Int32) (m_s : Nat → Int32) (v1 : Int32) (out : Int32) (hf : f_X8_now m_known m_told m_s v1 = some out) : Ci l yX8_now wsX8_now rmX8_now D cI cZ cR [.ref a_m, .int v1] [(a_m, .inr (8, [.long m_trace, .ref a_m_text, .int m_typed, .ref a_m_told, .ref a_m_draft, .ref a_m_s, .ref a_m_past, .int m_known, .ref a_m_images, .ref a_m_kept, .ref a_m_notes, .ref a_m_noted, .int m_many, .int m_at, .int m_sort, .int m_start, .int m_value, .ref a_m_held, .ref a_m_few])), (a_m_told, .inl (cI, 33, .inl m_told)), (a_m_s, .inl (cI, 51, .inl m_s))] out [(a_m, .inr (8, [.long m_trace, .ref a_m_text, .int m_typed, .ref a_m_told, .ref a_m_draft, .ref a_m_s, .ref a_m_past, .int m_known, .ref a_m_images, .ref a_m_kept, .ref a_m_notes, .ref a_m_noted, .int m_many, .int m_at, .int m_sort, .int m_start, .int m_value, .ref a_m_held, .ref a_m_few])), (a_m_told, .inl (cI, 33, .inl m_told)), (a_m_s, .inl (cI, 51, .inl m_s))] := by
  refine ent_i (cc := cX8_now) (maxL := 2) .int (by decide) rfl (Nat.le_of_ble_eq_true rfl) ?_
  intro p e s m below meth c A Q hx hb hml hown hts hE hA hP hD hS hret ls hl
  have hown : s.vm.findClass RX8 = some m.cls := hown
  have hl : lv_has ls 2 [(0, .ref a_m), (1, .int v1)] := hl
  have fL19 := hts (.fieldLink RX8 19 "RainShelvesModel" "s" "[I") (List.mem_of_getElem? (i := 1) rfl)
  have fL92 := hts (.fieldLink RX8 92 "RainShelvesModel" "known" "I") (List.mem_of_getElem? (i := 2) rfl)
  unfold f_X8_now at hf
  refine lv_iload_n hx hb dX8_now_0 rfl (lv_at hl 1 rfl) ?_
  by_cases hc1 : v1 = 0
  · have hf := if_t hf hc1
    refine lv_tableIn (off := 39) (tgt := 40) hx hb dX8_now_1 (by rw [hc1]; decide) (by rw [hc1]; decide) (by rw [hc1]; rfl) (by decide) ?_
    refine lv_aload_n hx hb dX8_now_40 rfl (lv_at hl 0 rfl) ?_
    refine va_get (D := D) (ci := 8) (v := .ref a_m_s) (C := RX8) (T := TX8) (N := 19) hx hb hts hiX8_now_8 hown hE.1 hP 0 rfl rfl 5 (by decide) fL19 (fun _ h9 => h9) rfl dX8_now_41 ?_
    refine lv_bipush (v := 49) hx hb dX8_now_44 (by decide) ?_
    obtain ⟨hc2, hf⟩ := ck_some hf
    refine va_iald hx hb hE.1 hP 2 0 rfl rfl (ix_in hc2) dX8_now_46 ?_
    have he := Option.some.inj hf
    subst he
    exact hret _ _ _ _ dX8_now_47 rfl hP hD hS
  have hf := if_f hf hc1
  by_cases hc3 : v1 = 1
  · have hf := if_t hf hc3
    refine lv_tableIn (off := 47) (tgt := 48) hx hb dX8_now_1 (by rw [hc3]; decide) (by rw [hc3]; decide) (by rw [hc3]; rfl) (by decide) ?_
    refine lv_aload_n hx hb dX8_now_48 rfl (lv_at hl 0 rfl) ?_
    refine va_get (D := D) (ci := 8) (v := .ref a_m_s) (C := RX8) (T := TX8) (N := 19) hx hb hts hiX8_now_8 hown hE.1 hP 0 rfl rfl 5 (by decide) fL19 (fun _ h9 => h9) rfl dX8_now_49 ?_
    refine lv_bipush (v := 50) hx hb dX8_now_52 (by decide) ?_
    obtain ⟨hc4, hf⟩ := ck_some hf
    refine va_iald hx hb hE.1 hP 2 0 rfl rfl (ix_in hc4) dX8_now_54 ?_
    have he := Option.some.inj hf
    subst he
    exact hret _ _ _ _ dX8_now_55 rfl hP hD hS
  have hf := if_f hf hc3
  by_cases hc5 : v1 = 2
  · have hf := if_t hf hc5
    refine lv_tableIn (off := 55) (tgt := 56) hx hb dX8_now_1 (by rw [hc5]; decide) (by rw [hc5]; decide) (by rw [hc5]; rfl) (by decide) ?_
    refine lv_aload_n hx hb dX8_now_56 rfl (lv_at hl 0 rfl) ?_
    obtain ⟨u1, hu1, hf⟩ := bd_some hf
    refine cl_iV (As := []) (rest := []) ⟨hx, hb, hml, hown, hts⟩ (c_X8_all l D cI cZ cR a_m a_m_told a_m_s a_m_text a_m_draft a_m_past a_m_images a_m_kept a_m_notes a_m_noted a_m_held a_m_few m_trace m_typed m_known m_many m_at m_sort m_start m_value m_told m_s  u1 hu1) (cw_X8_now_X8_all_107 hts) hE hP hD hS hA [0, 1, 2] rfl rfl [a_m, a_m_told, a_m_s] rfl rfl 0 8 rfl rfl rfl hl.1 rfl (Nat.le_of_ble_eq_true rfl) dX8_now_57 ⟨Nat.zero_le _, Nat.zero_le _⟩ (fun H locs hP hD hS => ?_)
    have hPD : PD D A [(a_m, .inr (8, [.long m_trace, .ref a_m_text, .int m_typed, .ref a_m_told, .ref a_m_draft, .ref a_m_s, .ref a_m_past, .int m_known, .ref a_m_images, .ref a_m_kept, .ref a_m_notes, .ref a_m_noted, .int m_many, .int m_at, .int m_sort, .int m_start, .int m_value, .ref a_m_held, .ref a_m_few])), (a_m_told, .inl (cI, 33, .inl m_told)), (a_m_s, .inl (cI, 51, .inl m_s))] H := ⟨hP, hD⟩
    obtain ⟨hP, hD⟩ := hPD
    have he := Option.some.inj hf
    subst he
    exact hret _ _ _ _ dX8_now_60 rfl hP hD hS
  have hf := if_f hf hc5
  by_cases hc6 : v1 = 3
  · have hf := if_t hf hc6
    refine lv_tableIn (off := 60) (tgt := 61) hx hb dX8_now_1 (by rw [hc6]; decide) (by rw [hc6]; decide) (by rw [hc6]; rfl) (by decide) ?_
    refine lv_aload_n hx hb dX8_now_61 rfl (lv_at hl 0 rfl) ?_
    obtain ⟨u2, hu2, hf⟩ := bd_some hf
    refine cl_iV (As := []) (rest := []) ⟨hx, hb, hml, hown, hts⟩ (c_X8_allRead l D cI cZ cR a_m a_m_told a_m_s a_m_text a_m_draft a_m_past a_m_images a_m_kept a_m_notes a_m_noted a_m_held a_m_few m_trace m_typed m_known m_many m_at m_sort m_start m_value m_told m_s  u2 hu2) (cw_X8_now_X8_allRead_111 hts) hE hP hD hS hA [0, 1, 2] rfl rfl [a_m, a_m_told, a_m_s] rfl rfl 0 8 rfl rfl rfl hl.1 rfl (Nat.le_of_ble_eq_true rfl) dX8_now_62 ⟨Nat.zero_le _, Nat.zero_le _⟩ (fun H locs hP hD hS => ?_)
    have hPD : PD D A [(a_m, .inr (8, [.long m_trace, .ref a_m_text, .int m_typed, .ref a_m_told, .ref a_m_draft, .ref a_m_s, .ref a_m_past, .int m_known, .ref a_m_images, .ref a_m_kept, .ref a_m_notes, .ref a_m_noted, .int m_many, .int m_at, .int m_sort, .int m_start, .int m_value, .ref a_m_held, .ref a_m_few])), (a_m_told, .inl (cI, 33, .inl m_told)), (a_m_s, .inl (cI, 51, .inl m_s))] H := ⟨hP, hD⟩
    obtain ⟨hP, hD⟩ := hPD
    have he := Option.some.inj hf
    subst he
    exact hret _ _ _ _ dX8_now_65 rfl hP hD hS
  have hf := if_f hf hc6
  by_cases hc7 : v1 = 4
  · have hf := if_t hf hc7
    refine lv_tableIn (off := 65) (tgt := 66) hx hb dX8_now_1 (by rw [hc7]; decide) (by rw [hc7]; decide) (by rw [hc7]; rfl) (by decide) ?_
    refine lv_aload_n hx hb dX8_now_66 rfl (lv_at hl 0 rfl) ?_
    obtain ⟨u3, hu3, hf⟩ := bd_some hf
    refine cl_iV (As := []) (rest := []) ⟨hx, hb, hml, hown, hts⟩ (c_X8_wettest l D cI cZ cR a_m a_m_told a_m_s a_m_text a_m_draft a_m_past a_m_images a_m_kept a_m_notes a_m_noted a_m_held a_m_few m_trace m_typed m_known m_many m_at m_sort m_start m_value m_told m_s  u3 hu3) (cw_X8_now_X8_wettest_114 hts) hE hP hD hS hA [0, 1, 2] rfl rfl [a_m, a_m_told, a_m_s] rfl rfl 0 8 rfl rfl rfl hl.1 rfl (Nat.le_of_ble_eq_true rfl) dX8_now_67 ⟨Nat.zero_le _, Nat.zero_le _⟩ (fun H locs hP hD hS => ?_)
    have hPD : PD D A [(a_m, .inr (8, [.long m_trace, .ref a_m_text, .int m_typed, .ref a_m_told, .ref a_m_draft, .ref a_m_s, .ref a_m_past, .int m_known, .ref a_m_images, .ref a_m_kept, .ref a_m_notes, .ref a_m_noted, .int m_many, .int m_at, .int m_sort, .int m_start, .int m_value, .ref a_m_held, .ref a_m_few])), (a_m_told, .inl (cI, 33, .inl m_told)), (a_m_s, .inl (cI, 51, .inl m_s))] H := ⟨hP, hD⟩
    obtain ⟨hP, hD⟩ := hPD
    have he := Option.some.inj hf
    subst he
    exact hret _ _ _ _ dX8_now_70 rfl hP hD hS
  have hf := if_f hf hc7
  by_cases hc8 : v1 = 5
  · have hf := if_t hf hc8
    refine lv_tableIn (off := 70) (tgt := 71) hx hb dX8_now_1 (by rw [hc8]; decide) (by rw [hc8]; decide) (by rw [hc8]; rfl) (by decide) ?_
    refine lv_aload_n hx hb dX8_now_71 rfl (lv_at hl 0 rfl) ?_
    refine va_get (D := D) (ci := 8) (v := .int m_known) (C := RX8) (T := TX8) (N := 19) hx hb hts hiX8_now_8 hown hE.1 hP 0 rfl rfl 7 (by decide) fL92 (fun _ h9 => h9) rfl dX8_now_72 ?_
    have he := Option.some.inj hf
    subst he
    exact hret _ _ _ _ dX8_now_75 rfl hP hD hS
  have hf := if_f hf hc8
  refine lv_tableOut (tgt := 76) hx hb dX8_now_1 (by have q0 : ¬ (v1).toInt = 0 := fun e => hc1 (Int32.toInt_inj.mp (e.trans (by decide))); have q1 : ¬ (v1).toInt = 1 := fun e => hc3 (Int32.toInt_inj.mp (e.trans (by decide))); have q2 : ¬ (v1).toInt = 2 := fun e => hc5 (Int32.toInt_inj.mp (e.trans (by decide))); have q3 : ¬ (v1).toInt = 3 := fun e => hc6 (Int32.toInt_inj.mp (e.trans (by decide))); have q4 : ¬ (v1).toInt = 4 := fun e => hc7 (Int32.toInt_inj.mp (e.trans (by decide))); have q5 : ¬ (v1).toInt = 5 := fun e => hc8 (Int32.toInt_inj.mp (e.trans (by decide))); omega) (by decide) ?_
  refine lv_iconst (v := (-1)) hx hb dX8_now_76 (by decide) ?_
  have he := Option.some.inj hf
  subst he
  exact hret _ _ _ _ dX8_now_77 rfl hP hD hS
abbrev rmX8_keeps : Room := { frames := 0, cells := 0, slots := 0, locals := 0 }
theorem hiX8_keeps_8 : ∀ w ∈ wsX80, w ∈ wsX8_keeps := fun w h => (goodIn_r (big := wsX8_keeps) wsX80 [4, 5, 6, 7, 8, 9, 10, 11, 12, 13, 14, 15, 16, 17, 18, 19, 20, 21, 22] rfl (by decide +kernel) w h).1
set_option maxRecDepth 100000 in
set_option maxHeartbeats 4000000 in
theorem c_X8_keeps (l : Launch) (D : va_G) (cI cZ cR : ClassId) (a_m : Nat) (a_m_past : Nat) (a_m_s : Nat) (a_m_text : Nat) (a_m_told : Nat) (a_m_draft : Nat) (a_m_images : Nat) (a_m_kept : Nat) (a_m_notes : Nat) (a_m_noted : Nat) (a_m_held : Nat) (a_m_few : Nat) (m_trace : Int64) (m_typed : Int32) (m_known : Int32) (m_many : Int32) (m_at : Int32) (m_sort : Int32) (m_start : Int32) (m_value : Int32) (m_past : Nat → Int32) (m_s : Nat → Int32) (out : Int32 × (Nat → Int32)) (hf : f_X8_keeps m_known m_past m_s = some out) : Cv l yX8_keeps wsX8_keeps rmX8_keeps D cI cZ cR [.ref a_m] [(a_m, .inr (8, [.long m_trace, .ref a_m_text, .int m_typed, .ref a_m_told, .ref a_m_draft, .ref a_m_s, .ref a_m_past, .int m_known, .ref a_m_images, .ref a_m_kept, .ref a_m_notes, .ref a_m_noted, .int m_many, .int m_at, .int m_sort, .int m_start, .int m_value, .ref a_m_held, .ref a_m_few])), (a_m_past, .inl (cI, 510, .inl m_past)), (a_m_s, .inl (cI, 51, .inl m_s))] [(a_m, .inr (8, [.long m_trace, .ref a_m_text, .int m_typed, .ref a_m_told, .ref a_m_draft, .ref a_m_s, .ref a_m_past, .int out.1, .ref a_m_images, .ref a_m_kept, .ref a_m_notes, .ref a_m_noted, .int m_many, .int m_at, .int m_sort, .int m_start, .int m_value, .ref a_m_held, .ref a_m_few])), (a_m_past, .inl (cI, 510, .inl out.2)), (a_m_s, .inl (cI, 51, .inl m_s))] := by
  refine ent_v (cc := cX8_keeps) (maxL := 2) (by decide) rfl (Nat.le_of_ble_eq_true rfl) ?_
  intro p e s m below meth c A Q hx hb hml hown hts hE hA hP hD hS hret ls hl
  have hown : s.vm.findClass RX8 = some m.cls := hown
  have hl : lv_has ls 2 [(0, .ref a_m)] := hl
  have fL19 := hts (.fieldLink RX8 19 "RainShelvesModel" "s" "[I") (List.mem_of_getElem? (i := 3) rfl)
  have fL22 := hts (.fieldLink RX8 22 "RainShelvesModel" "past" "[I") (List.mem_of_getElem? (i := 2) rfl)
  have fL92 := hts (.fieldLink RX8 92 "RainShelvesModel" "known" "I") (List.mem_of_getElem? (i := 1) rfl)
  unfold f_X8_keeps at hf
  have J83 : ∀ (m_known_83 : Int32) (m_past_83 : Nat → Int32), f_X8_keeps_J83 m_known_83 m_past_83 = some out → ∀ (H : Heap) (locs : List Loc) (ls : Array Slot), PD D A [(a_m, .inr (8, [.long m_trace, .ref a_m_text, .int m_typed, .ref a_m_told, .ref a_m_draft, .ref a_m_s, .ref a_m_past, .int m_known_83, .ref a_m_images, .ref a_m_kept, .ref a_m_notes, .ref a_m_noted, .int m_many, .int m_at, .int m_sort, .int m_start, .int m_value, .ref a_m_held, .ref a_m_few])), (a_m_past, .inl (cI, 510, .inl m_past_83)), (a_m_s, .inl (cI, 51, .inl m_s))] H → va_S A s.heap H locs → lv_has ls 2 [(0, .ref a_m)] → W p l e rmX8_keeps s m ([.ref a_m] : List Value).toArray below meth c H locs 0 0 Q (F0 m 83 ls []) := by
    intro m_known_83 m_past_83 hf H locs ls hPD hS hl
    obtain ⟨hP, hD⟩ := hPD
    unfold f_X8_keeps_J83 at hf
    refine lv_aload_n hx hb dX8_keeps_83 rfl (lv_at hl 0 rfl) ?_
    refine lv_dup hx hb dX8_keeps_84 rfl ?_
    refine va_get (D := D) (ci := 8) (v := .int m_known_83) (C := RX8) (T := TX8) (N := 19) hx hb hts hiX8_keeps_8 hown hE.1 hP 0 rfl rfl 7 (by decide) fL92 (fun _ h9 => h9) rfl dX8_keeps_85 ?_
    refine lv_iconst (v := 1) hx hb dX8_keeps_88 (by decide) ?_
    refine lv_iadd hx hb dX8_keeps_89 ?_
    refine va_put (D := D) (ci := 8) (v := .int (m_known_83 + 1)) (ty := .int) (C := RX8) (T := TX8) (N := 19) hx hb hts hiX8_keeps_8 tyX8 tyX8_ok nmX8 hown hE.1 hP hD hS 0 rfl rfl 7 (by decide) fL92 (fun _ h9 => h9) rfl (tyX8_ok 7 (by decide)) rfl rfl (Nat.le_of_ble_eq_true rfl) dX8_keeps_90 (fun H locs hP hD hS => ?_)
    have hPD : PD D A [(a_m, .inr (8, [.long m_trace, .ref a_m_text, .int m_typed, .ref a_m_told, .ref a_m_draft, .ref a_m_s, .ref a_m_past, .int (m_known_83 + 1), .ref a_m_images, .ref a_m_kept, .ref a_m_notes, .ref a_m_noted, .int m_many, .int m_at, .int m_sort, .int m_start, .int m_value, .ref a_m_held, .ref a_m_few])), (a_m_past, .inl (cI, 510, .inl m_past_83)), (a_m_s, .inl (cI, 51, .inl m_s))] H := ⟨hP, hD⟩
    obtain ⟨hP, hD⟩ := hPD
    have he := Option.some.inj hf
    subst he
    exact hret _ _ _ _ dX8_keeps_93 hP hD hS
  have L51 : ∀ (m_known_51 : Int32) (n51 : Nat) (v1_51 : Int32) (m_past_51 : Nat → Int32), f_X8_keeps_L51 m_s m_known_51 n51 v1_51 m_past_51 = some out → ∀ (H : Heap) (locs : List Loc) (ls : Array Slot), PD D A [(a_m, .inr (8, [.long m_trace, .ref a_m_text, .int m_typed, .ref a_m_told, .ref a_m_draft, .ref a_m_s, .ref a_m_past, .int m_known_51, .ref a_m_images, .ref a_m_kept, .ref a_m_notes, .ref a_m_noted, .int m_many, .int m_at, .int m_sort, .int m_start, .int m_value, .ref a_m_held, .ref a_m_few])), (a_m_past, .inl (cI, 510, .inl m_past_51)), (a_m_s, .inl (cI, 51, .inl m_s))] H → va_S A s.heap H locs → lv_has ls 2 [(0, .ref a_m), (1, .int v1_51)] → W p l e rmX8_keeps s m ([.ref a_m] : List Value).toArray below meth c H locs 0 0 Q (F0 m 51 ls []) := by
    intro m_known_51 n51
    induction n51 with
    | zero => intro v1_51 m_past_51 hf; cases hf
    | succ n51 ih51 =>
      intro v1_51 m_past_51 hf H locs ls hPD hS hl
      obtain ⟨hP, hD⟩ := hPD
      have hf : f_X8_keeps_B51 m_s m_known_51 (f_X8_keeps_L51 m_s m_known_51 n51) v1_51 m_past_51 = some out := hf
      unfold f_X8_keeps_B51 at hf
      refine lv_iload_n hx hb dX8_keeps_51 rfl (lv_at hl 1 rfl) ?_
      refine lv_bipush (v := 51) hx hb dX8_keeps_52 (by decide) ?_
      refine lv_icmp_ge (tgt := 83) hx hb dX8_keeps_54 (by decide) (fun hc1 => ?_) (fun hc1 => ?_)
      · have hf := if_t hf hc1
        exact J83 m_known_51 m_past_51 hf _ _ _ ⟨hP, hD⟩ hS (lv_sub hl [0] rfl)
      · have hf := if_f hf hc1
        refine lv_aload_n hx hb dX8_keeps_57 rfl (lv_at hl 0 rfl) ?_
        refine va_get (D := D) (ci := 8) (v := .ref a_m_past) (C := RX8) (T := TX8) (N := 19) hx hb hts hiX8_keeps_8 hown hE.1 hP 0 rfl rfl 6 (by decide) fL22 (fun _ h9 => h9) rfl dX8_keeps_58 ?_
        refine lv_bipush (v := 51) hx hb dX8_keeps_61 (by decide) ?_
        refine lv_aload_n hx hb dX8_keeps_63 rfl (lv_at hl 0 rfl) ?_
        refine va_get (D := D) (ci := 8) (v := .int m_known_51) (C := RX8) (T := TX8) (N := 19) hx hb hts hiX8_keeps_8 hown hE.1 hP 0 rfl rfl 7 (by decide) fL92 (fun _ h9 => h9) rfl dX8_keeps_64 ?_
        refine lv_imul hx hb dX8_keeps_67 ?_
        refine lv_iload_n hx hb dX8_keeps_68 rfl (lv_at hl 1 rfl) ?_
        refine lv_iadd hx hb dX8_keeps_69 ?_
        refine lv_aload_n hx hb dX8_keeps_70 rfl (lv_at hl 0 rfl) ?_
        refine va_get (D := D) (ci := 8) (v := .ref a_m_s) (C := RX8) (T := TX8) (N := 19) hx hb hts hiX8_keeps_8 hown hE.1 hP 0 rfl rfl 5 (by decide) fL19 (fun _ h9 => h9) rfl dX8_keeps_71 ?_
        refine lv_iload_n hx hb dX8_keeps_74 rfl (lv_at hl 1 rfl) ?_
        obtain ⟨hc2, hf⟩ := ck_some hf
        refine va_iald hx hb hE.1 hP 2 0 rfl rfl (ix_in hc2) dX8_keeps_75 ?_
        obtain ⟨hc3, hf⟩ := ck_some hf
        refine va_iast hx hb hE.1 hP hD hS 1 0 rfl rfl (ix_in hc3) dX8_keeps_76 (fun H locs hP hD hS => ?_)
        have hPD : PD D A [(a_m, .inr (8, [.long m_trace, .ref a_m_text, .int m_typed, .ref a_m_told, .ref a_m_draft, .ref a_m_s, .ref a_m_past, .int m_known_51, .ref a_m_images, .ref a_m_kept, .ref a_m_notes, .ref a_m_noted, .int m_many, .int m_at, .int m_sort, .int m_start, .int m_value, .ref a_m_held, .ref a_m_few])), (a_m_past, .inl (cI, 510, .inl (upd m_past_51 ((51 * m_known_51) + v1_51).toNatClampNeg (m_s v1_51.toNatClampNeg)))), (a_m_s, .inl (cI, 51, .inl m_s))] H := ⟨hP, hD⟩
        obtain ⟨hP, hD⟩ := hPD
        refine lv_iinc (v := (v1_51 + 1)) (lv' := [(1, .int (v1_51 + 1)), (0, .ref a_m)]) hx hb dX8_keeps_77 hl (k := 1) rfl (ii_p1 _) (by decide) rfl (fun ls hl => ?_)
        refine lv_goto (tgt := 51) hx hb dX8_keeps_80 (by decide) ?_
        exact ih51 (v1_51 + 1) (upd m_past_51 ((51 * m_known_51) + v1_51).toNatClampNeg (m_s v1_51.toNatClampNeg)) hf _ _ _ ⟨hP, hD⟩ hS (lv_sub hl [1, 0] rfl)
  have J39 : ∀ (m_past_39 : Nat → Int32), f_X8_keeps_J39 m_known m_s m_past_39 = some out → ∀ (H : Heap) (locs : List Loc) (ls : Array Slot), PD D A [(a_m, .inr (8, [.long m_trace, .ref a_m_text, .int m_typed, .ref a_m_told, .ref a_m_draft, .ref a_m_s, .ref a_m_past, .int m_known, .ref a_m_images, .ref a_m_kept, .ref a_m_notes, .ref a_m_noted, .int m_many, .int m_at, .int m_sort, .int m_start, .int m_value, .ref a_m_held, .ref a_m_few])), (a_m_past, .inl (cI, 510, .inl m_past_39)), (a_m_s, .inl (cI, 51, .inl m_s))] H → va_S A s.heap H locs → lv_has ls 2 [(0, .ref a_m)] → W p l e rmX8_keeps s m ([.ref a_m] : List Value).toArray below meth c H locs 0 0 Q (F0 m 39 ls []) := by
    intro m_past_39 hf H locs ls hPD hS hl
    obtain ⟨hP, hD⟩ := hPD
    unfold f_X8_keeps_J39 at hf
    refine lv_aload_n hx hb dX8_keeps_39 rfl (lv_at hl 0 rfl) ?_
    refine lv_dup hx hb dX8_keeps_40 rfl ?_
    refine va_get (D := D) (ci := 8) (v := .int m_known) (C := RX8) (T := TX8) (N := 19) hx hb hts hiX8_keeps_8 hown hE.1 hP 0 rfl rfl 7 (by decide) fL92 (fun _ h9 => h9) rfl dX8_keeps_41 ?_
    refine lv_iconst (v := 1) hx hb dX8_keeps_44 (by decide) ?_
    refine lv_isub hx hb dX8_keeps_45 ?_
    refine va_put (D := D) (ci := 8) (v := .int (m_known - 1)) (ty := .int) (C := RX8) (T := TX8) (N := 19) hx hb hts hiX8_keeps_8 tyX8 tyX8_ok nmX8 hown hE.1 hP hD hS 0 rfl rfl 7 (by decide) fL92 (fun _ h9 => h9) rfl (tyX8_ok 7 (by decide)) rfl rfl (Nat.le_of_ble_eq_true rfl) dX8_keeps_46 (fun H locs hP hD hS => ?_)
    have hPD : PD D A [(a_m, .inr (8, [.long m_trace, .ref a_m_text, .int m_typed, .ref a_m_told, .ref a_m_draft, .ref a_m_s, .ref a_m_past, .int (m_known - 1), .ref a_m_images, .ref a_m_kept, .ref a_m_notes, .ref a_m_noted, .int m_many, .int m_at, .int m_sort, .int m_start, .int m_value, .ref a_m_held, .ref a_m_few])), (a_m_past, .inl (cI, 510, .inl m_past_39)), (a_m_s, .inl (cI, 51, .inl m_s))] H := ⟨hP, hD⟩
    obtain ⟨hP, hD⟩ := hPD
    refine lv_iconst (v := 0) hx hb dX8_keeps_49 (by decide) ?_
    refine lv_istore_n (lv' := [(1, .int 0), (0, .ref a_m)]) hx hb dX8_keeps_50 rfl hl (by decide) rfl (fun ls hl => ?_)
    exact L51 (m_known - 1) FU 0 m_past_39 hf _ _ _ ⟨hP, hD⟩ hS (lv_sub hl [1, 0] rfl)
  have L11 : ∀ (n11 : Nat) (v1_11 : Int32) (m_past_11 : Nat → Int32), f_X8_keeps_L11 m_known m_s n11 v1_11 m_past_11 = some out → ∀ (H : Heap) (locs : List Loc) (ls : Array Slot), PD D A [(a_m, .inr (8, [.long m_trace, .ref a_m_text, .int m_typed, .ref a_m_told, .ref a_m_draft, .ref a_m_s, .ref a_m_past, .int m_known, .ref a_m_images, .ref a_m_kept, .ref a_m_notes, .ref a_m_noted, .int m_many, .int m_at, .int m_sort, .int m_start, .int m_value, .ref a_m_held, .ref a_m_few])), (a_m_past, .inl (cI, 510, .inl m_past_11)), (a_m_s, .inl (cI, 51, .inl m_s))] H → va_S A s.heap H locs → lv_has ls 2 [(0, .ref a_m), (1, .int v1_11)] → W p l e rmX8_keeps s m ([.ref a_m] : List Value).toArray below meth c H locs 0 0 Q (F0 m 11 ls []) := by
    intro  n11
    induction n11 with
    | zero => intro v1_11 m_past_11 hf; cases hf
    | succ n11 ih11 =>
      intro v1_11 m_past_11 hf H locs ls hPD hS hl
      obtain ⟨hP, hD⟩ := hPD
      have hf : f_X8_keeps_B11 m_known m_s (f_X8_keeps_L11 m_known m_s n11) v1_11 m_past_11 = some out := hf
      unfold f_X8_keeps_B11 at hf
      refine lv_iload_n hx hb dX8_keeps_11 rfl (lv_at hl 1 rfl) ?_
      refine lv_sipush (v := 459) hx hb dX8_keeps_12 (by decide) ?_
      refine lv_icmp_ge (tgt := 39) hx hb dX8_keeps_15 (by decide) (fun hc4 => ?_) (fun hc4 => ?_)
      · have hf := if_t hf hc4
        exact J39 m_past_11 hf _ _ _ ⟨hP, hD⟩ hS (lv_sub hl [0] rfl)
      · have hf := if_f hf hc4
        refine lv_aload_n hx hb dX8_keeps_18 rfl (lv_at hl 0 rfl) ?_
        refine va_get (D := D) (ci := 8) (v := .ref a_m_past) (C := RX8) (T := TX8) (N := 19) hx hb hts hiX8_keeps_8 hown hE.1 hP 0 rfl rfl 6 (by decide) fL22 (fun _ h9 => h9) rfl dX8_keeps_19 ?_
        refine lv_iload_n hx hb dX8_keeps_22 rfl (lv_at hl 1 rfl) ?_
        refine lv_aload_n hx hb dX8_keeps_23 rfl (lv_at hl 0 rfl) ?_
        refine va_get (D := D) (ci := 8) (v := .ref a_m_past) (C := RX8) (T := TX8) (N := 19) hx hb hts hiX8_keeps_8 hown hE.1 hP 0 rfl rfl 6 (by decide) fL22 (fun _ h9 => h9) rfl dX8_keeps_24 ?_
        refine lv_iload_n hx hb dX8_keeps_27 rfl (lv_at hl 1 rfl) ?_
        refine lv_bipush (v := 51) hx hb dX8_keeps_28 (by decide) ?_
        refine lv_iadd hx hb dX8_keeps_30 ?_
        obtain ⟨hc5, hf⟩ := ck_some hf
        refine va_iald hx hb hE.1 hP 1 0 rfl rfl (ix_in hc5) dX8_keeps_31 ?_
        obtain ⟨hc6, hf⟩ := ck_some hf
        refine va_iast hx hb hE.1 hP hD hS 1 0 rfl rfl (ix_in hc6) dX8_keeps_32 (fun H locs hP hD hS => ?_)
        have hPD : PD D A [(a_m, .inr (8, [.long m_trace, .ref a_m_text, .int m_typed, .ref a_m_told, .ref a_m_draft, .ref a_m_s, .ref a_m_past, .int m_known, .ref a_m_images, .ref a_m_kept, .ref a_m_notes, .ref a_m_noted, .int m_many, .int m_at, .int m_sort, .int m_start, .int m_value, .ref a_m_held, .ref a_m_few])), (a_m_past, .inl (cI, 510, .inl (upd m_past_11 v1_11.toNatClampNeg (m_past_11 (v1_11 + 51).toNatClampNeg)))), (a_m_s, .inl (cI, 51, .inl m_s))] H := ⟨hP, hD⟩
        obtain ⟨hP, hD⟩ := hPD
        refine lv_iinc (v := (v1_11 + 1)) (lv' := [(1, .int (v1_11 + 1)), (0, .ref a_m)]) hx hb dX8_keeps_33 hl (k := 1) rfl (ii_p1 _) (by decide) rfl (fun ls hl => ?_)
        refine lv_goto (tgt := 11) hx hb dX8_keeps_36 (by decide) ?_
        exact ih11 (v1_11 + 1) (upd m_past_11 v1_11.toNatClampNeg (m_past_11 (v1_11 + 51).toNatClampNeg)) hf _ _ _ ⟨hP, hD⟩ hS (lv_sub hl [1, 0] rfl)
  refine lv_aload_n hx hb dX8_keeps_0 rfl (lv_at hl 0 rfl) ?_
  refine va_get (D := D) (ci := 8) (v := .int m_known) (C := RX8) (T := TX8) (N := 19) hx hb hts hiX8_keeps_8 hown hE.1 hP 0 rfl rfl 7 (by decide) fL92 (fun _ h9 => h9) rfl dX8_keeps_1 ?_
  refine lv_bipush (v := 10) hx hb dX8_keeps_4 (by decide) ?_
  refine lv_icmp_ne (tgt := 49) hx hb dX8_keeps_6 (by decide) (fun hc7 => ?_) (fun hc7 => ?_)
  · have hf := if_f hf hc7
    refine lv_iconst (v := 0) hx hb dX8_keeps_49 (by decide) ?_
    refine lv_istore_n (lv' := [(1, .int 0), (0, .ref a_m)]) hx hb dX8_keeps_50 rfl hl (by decide) rfl (fun ls hl => ?_)
    exact L51 m_known FU 0 m_past hf _ _ _ ⟨hP, hD⟩ hS (lv_sub hl [1, 0] rfl)
  · have hf := if_t hf hc7
    refine lv_iconst (v := 0) hx hb dX8_keeps_9 (by decide) ?_
    refine lv_istore_n (lv' := [(1, .int 0), (0, .ref a_m)]) hx hb dX8_keeps_10 rfl hl (by decide) rfl (fun ls hl => ?_)
    exact L11  FU 0 m_past hf _ _ _ ⟨hP, hD⟩ hS (lv_sub hl [1, 0] rfl)
abbrev rmX8_takes : Room := { frames := 0, cells := 0, slots := 0, locals := 0 }
theorem hiX8_takes_8 : ∀ w ∈ wsX80, w ∈ wsX8_takes := fun w h => (goodIn_r (big := wsX8_takes) wsX80 [3, 4, 5, 6, 7, 8, 9, 10, 11, 12, 13, 14, 15, 16, 17, 18, 19, 20, 21] rfl (by decide +kernel) w h).1
set_option maxRecDepth 100000 in
set_option maxHeartbeats 4000000 in
theorem c_X8_takes (l : Launch) (D : va_G) (cI cZ cR : ClassId) (a_m : Nat) (a_m_s : Nat) (a_m_told : Nat) (a_m_text : Nat) (a_m_draft : Nat) (a_m_past : Nat) (a_m_images : Nat) (a_m_kept : Nat) (a_m_notes : Nat) (a_m_noted : Nat) (a_m_held : Nat) (a_m_few : Nat) (m_trace : Int64) (m_typed : Int32) (m_known : Int32) (m_many : Int32) (m_at : Int32) (m_sort : Int32) (m_start : Int32) (m_value : Int32) (m_s : Nat → Int32) (m_told : Nat → Int32) (v1 : Int32) (out : Int32 × (Nat → Int32)) (hf : f_X8_takes m_s m_told v1 = some out) : Ci l yX8_takes wsX8_takes rmX8_takes D cI cZ cR [.ref a_m, .int v1] [(a_m, .inr (8, [.long m_trace, .ref a_m_text, .int m_typed, .ref a_m_told, .ref a_m_draft, .ref a_m_s, .ref a_m_past, .int m_known, .ref a_m_images, .ref a_m_kept, .ref a_m_notes, .ref a_m_noted, .int m_many, .int m_at, .int m_sort, .int m_start, .int m_value, .ref a_m_held, .ref a_m_few])), (a_m_s, .inl (cI, 51, .inl m_s)), (a_m_told, .inl (cI, 33, .inl m_told))] out.1 [(a_m, .inr (8, [.long m_trace, .ref a_m_text, .int m_typed, .ref a_m_told, .ref a_m_draft, .ref a_m_s, .ref a_m_past, .int m_known, .ref a_m_images, .ref a_m_kept, .ref a_m_notes, .ref a_m_noted, .int m_many, .int m_at, .int m_sort, .int m_start, .int m_value, .ref a_m_held, .ref a_m_few])), (a_m_s, .inl (cI, 51, .inl out.2)), (a_m_told, .inl (cI, 33, .inl m_told))] := by
  refine ent_i (cc := cX8_takes) (maxL := 4) .int (by decide) rfl (Nat.le_of_ble_eq_true rfl) ?_
  intro p e s m below meth c A Q hx hb hml hown hts hE hA hP hD hS hret ls hl
  have hown : s.vm.findClass RX8 = some m.cls := hown
  have hl : lv_has ls 4 [(0, .ref a_m), (1, .int v1)] := hl
  have fL13 := hts (.fieldLink RX8 13 "RainShelvesModel" "told" "[I") (List.mem_of_getElem? (i := 2) rfl)
  have fL19 := hts (.fieldLink RX8 19 "RainShelvesModel" "s" "[I") (List.mem_of_getElem? (i := 1) rfl)
  unfold f_X8_takes at hf
  have J58 : ∀ (v2_58 : Int32), f_X8_takes_J58 m_s v1 v2_58 = some out → ∀ (H : Heap) (locs : List Loc) (ls : Array Slot), PD D A [(a_m, .inr (8, [.long m_trace, .ref a_m_text, .int m_typed, .ref a_m_told, .ref a_m_draft, .ref a_m_s, .ref a_m_past, .int m_known, .ref a_m_images, .ref a_m_kept, .ref a_m_notes, .ref a_m_noted, .int m_many, .int m_at, .int m_sort, .int m_start, .int m_value, .ref a_m_held, .ref a_m_few])), (a_m_s, .inl (cI, 51, .inl m_s)), (a_m_told, .inl (cI, 33, .inl m_told))] H → va_S A s.heap H locs → lv_has ls 4 [(0, .ref a_m), (1, .int v1), (2, .int v2_58)] → W p l e rmX8_takes s m ([.ref a_m, .int v1] : List Value).toArray below meth c H locs 0 0 Q (F0 m 58 ls []) := by
    intro v2_58 hf H locs ls hPD hS hl
    obtain ⟨hP, hD⟩ := hPD
    unfold f_X8_takes_J58 at hf
    refine lv_iload_n hx hb dX8_takes_58 rfl (lv_at hl 2 rfl) ?_
    refine lv_if_lt (tgt := 77) hx hb dX8_takes_59 (by decide) (fun hc1 => ?_) (fun hc1 => ?_)
    · have hf := if_t hf hc1
      refine lv_iload_n hx hb dX8_takes_77 rfl (lv_at hl 2 rfl) ?_
      have he := Option.some.inj hf
      subst he
      exact hret _ _ _ _ dX8_takes_78 rfl hP hD hS
    · have hf := if_f hf hc1
      refine lv_aload_n hx hb dX8_takes_62 rfl (lv_at hl 0 rfl) ?_
      refine va_get (D := D) (ci := 8) (v := .ref a_m_s) (C := RX8) (T := TX8) (N := 19) hx hb hts hiX8_takes_8 hown hE.1 hP 0 rfl rfl 5 (by decide) fL19 (fun _ h9 => h9) rfl dX8_takes_63 ?_
      refine lv_bipush (v := 7) hx hb dX8_takes_66 (by decide) ?_
      refine lv_iload_n hx hb dX8_takes_68 rfl (lv_at hl 1 rfl) ?_
      refine lv_imul hx hb dX8_takes_69 ?_
      refine lv_iload_n hx hb dX8_takes_70 rfl (lv_at hl 2 rfl) ?_
      refine lv_iadd hx hb dX8_takes_71 ?_
      refine lv_dup2_11 hx hb dX8_takes_72 rfl rfl ?_
      obtain ⟨hc2, hf⟩ := ck_some hf
      refine va_iald hx hb hE.1 hP 1 0 rfl rfl (ix_in hc2) dX8_takes_73 ?_
      refine lv_iconst (v := 1) hx hb dX8_takes_74 (by decide) ?_
      refine lv_isub hx hb dX8_takes_75 ?_
      obtain ⟨hc3, hf⟩ := ck_some hf
      refine va_iast hx hb hE.1 hP hD hS 1 0 rfl rfl (ix_in hc3) dX8_takes_76 (fun H locs hP hD hS => ?_)
      have hPD : PD D A [(a_m, .inr (8, [.long m_trace, .ref a_m_text, .int m_typed, .ref a_m_told, .ref a_m_draft, .ref a_m_s, .ref a_m_past, .int m_known, .ref a_m_images, .ref a_m_kept, .ref a_m_notes, .ref a_m_noted, .int m_many, .int m_at, .int m_sort, .int m_start, .int m_value, .ref a_m_held, .ref a_m_few])), (a_m_s, .inl (cI, 51, .inl (upd m_s ((7 * v1) + v2_58).toNatClampNeg ((m_s ((7 * v1) + v2_58).toNatClampNeg) - 1)))), (a_m_told, .inl (cI, 33, .inl m_told))] H := ⟨hP, hD⟩
      obtain ⟨hP, hD⟩ := hPD
      refine lv_iload_n hx hb dX8_takes_77 rfl (lv_at hl 2 rfl) ?_
      have he := Option.some.inj hf
      subst he
      exact hret _ _ _ _ dX8_takes_78 rfl hP hD hS
  have L5 : ∀ (n5 : Nat) (v2_5 : Int32) (v3_5 : Int32), f_X8_takes_L5 m_s m_told v1 n5 v2_5 v3_5 = some out → ∀ (H : Heap) (locs : List Loc) (ls : Array Slot), PD D A [(a_m, .inr (8, [.long m_trace, .ref a_m_text, .int m_typed, .ref a_m_told, .ref a_m_draft, .ref a_m_s, .ref a_m_past, .int m_known, .ref a_m_images, .ref a_m_kept, .ref a_m_notes, .ref a_m_noted, .int m_many, .int m_at, .int m_sort, .int m_start, .int m_value, .ref a_m_held, .ref a_m_few])), (a_m_s, .inl (cI, 51, .inl m_s)), (a_m_told, .inl (cI, 33, .inl m_told))] H → va_S A s.heap H locs → lv_has ls 4 [(0, .ref a_m), (1, .int v1), (2, .int v2_5), (3, .int v3_5)] → W p l e rmX8_takes s m ([.ref a_m, .int v1] : List Value).toArray below meth c H locs 0 0 Q (F0 m 5 ls []) := by
    intro  n5
    induction n5 with
    | zero => intro v2_5 v3_5 hf; cases hf
    | succ n5 ih5 =>
      intro v2_5 v3_5 hf H locs ls hPD hS hl
      obtain ⟨hP, hD⟩ := hPD
      have hf : f_X8_takes_B5 m_s m_told v1 (f_X8_takes_L5 m_s m_told v1 n5) v2_5 v3_5 = some out := hf
      unfold f_X8_takes_B5 at hf
      refine lv_iload_n hx hb dX8_takes_5 rfl (lv_at hl 3 rfl) ?_
      refine lv_if_lt (tgt := 58) hx hb dX8_takes_6 (by decide) (fun hc4 => ?_) (fun hc4 => ?_)
      · have hf := if_t hf hc4
        exact J58 v2_5 hf _ _ _ ⟨hP, hD⟩ hS (lv_sub hl [0, 1, 2] rfl)
      · have hf := if_f hf hc4
        refine lv_aload_n hx hb dX8_takes_9 rfl (lv_at hl 0 rfl) ?_
        refine va_get (D := D) (ci := 8) (v := .ref a_m_s) (C := RX8) (T := TX8) (N := 19) hx hb hts hiX8_takes_8 hown hE.1 hP 0 rfl rfl 5 (by decide) fL19 (fun _ h9 => h9) rfl dX8_takes_10 ?_
        refine lv_bipush (v := 7) hx hb dX8_takes_13 (by decide) ?_
        refine lv_iload_n hx hb dX8_takes_15 rfl (lv_at hl 1 rfl) ?_
        refine lv_imul hx hb dX8_takes_16 ?_
        refine lv_iload_n hx hb dX8_takes_17 rfl (lv_at hl 3 rfl) ?_
        refine lv_iadd hx hb dX8_takes_18 ?_
        obtain ⟨hc5, hf⟩ := ck_some hf
        refine va_iald hx hb hE.1 hP 1 0 rfl rfl (ix_in hc5) dX8_takes_19 ?_
        refine lv_if_le (tgt := 50) hx hb dX8_takes_20 (by decide) (fun hc6 => ?_) (fun hc6 => ?_)
        · have hf := if_t hf hc6
          refine lv_iload_n hx hb dX8_takes_50 rfl (lv_at hl 2 rfl) ?_
          refine lv_istore_n (lv' := [(2, .int v2_5), (0, .ref a_m), (1, .int v1), (3, .int v3_5)]) hx hb dX8_takes_51 rfl hl (by decide) rfl (fun ls hl => ?_)
          refine lv_iinc (v := (v3_5 + (-1))) (lv' := [(3, .int (v3_5 + (-1))), (2, .int v2_5), (0, .ref a_m), (1, .int v1)]) hx hb dX8_takes_52 hl (k := 3) rfl (ii_m1 _) (by decide) rfl (fun ls hl => ?_)
          refine lv_goto (tgt := 5) hx hb dX8_takes_55 (by decide) ?_
          exact ih5 v2_5 (v3_5 + (-1)) hf _ _ _ ⟨hP, hD⟩ hS (lv_sub hl [2, 3, 1, 0] rfl)
        · have hf := if_f hf hc6
          refine lv_iload_n hx hb dX8_takes_23 rfl (lv_at hl 2 rfl) ?_
          refine lv_if_lt (tgt := 46) hx hb dX8_takes_24 (by decide) (fun hc7 => ?_) (fun hc7 => ?_)
          · have hf := if_t hf hc7
            refine lv_iload_n hx hb dX8_takes_46 rfl (lv_at hl 3 rfl) ?_
            refine lv_goto (tgt := 51) hx hb dX8_takes_47 (by decide) ?_
            refine lv_istore_n (lv' := [(2, .int v3_5), (0, .ref a_m), (1, .int v1), (3, .int v3_5)]) hx hb dX8_takes_51 rfl hl (by decide) rfl (fun ls hl => ?_)
            refine lv_iinc (v := (v3_5 + (-1))) (lv' := [(3, .int (v3_5 + (-1))), (2, .int v3_5), (0, .ref a_m), (1, .int v1)]) hx hb dX8_takes_52 hl (k := 3) rfl (ii_m1 _) (by decide) rfl (fun ls hl => ?_)
            refine lv_goto (tgt := 5) hx hb dX8_takes_55 (by decide) ?_
            exact ih5 v3_5 (v3_5 + (-1)) hf _ _ _ ⟨hP, hD⟩ hS (lv_sub hl [2, 3, 1, 0] rfl)
          · have hf := if_f hf hc7
            refine lv_aload_n hx hb dX8_takes_27 rfl (lv_at hl 0 rfl) ?_
            refine va_get (D := D) (ci := 8) (v := .ref a_m_told) (C := RX8) (T := TX8) (N := 19) hx hb hts hiX8_takes_8 hown hE.1 hP 0 rfl rfl 3 (by decide) fL13 (fun _ h9 => h9) rfl dX8_takes_28 ?_
            refine lv_iconst (v := 5) hx hb dX8_takes_31 (by decide) ?_
            refine lv_iload_n hx hb dX8_takes_32 rfl (lv_at hl 3 rfl) ?_
            refine lv_iadd hx hb dX8_takes_33 ?_
            obtain ⟨hc8, hf⟩ := ck_some hf
            refine va_iald hx hb hE.1 hP 2 0 rfl rfl (ix_in hc8) dX8_takes_34 ?_
            refine lv_aload_n hx hb dX8_takes_35 rfl (lv_at hl 0 rfl) ?_
            refine va_get (D := D) (ci := 8) (v := .ref a_m_told) (C := RX8) (T := TX8) (N := 19) hx hb hts hiX8_takes_8 hown hE.1 hP 0 rfl rfl 3 (by decide) fL13 (fun _ h9 => h9) rfl dX8_takes_36 ?_
            refine lv_iconst (v := 5) hx hb dX8_takes_39 (by decide) ?_
            refine lv_iload_n hx hb dX8_takes_40 rfl (lv_at hl 2 rfl) ?_
            refine lv_iadd hx hb dX8_takes_41 ?_
            obtain ⟨hc9, hf⟩ := ck_some hf
            refine va_iald hx hb hE.1 hP 2 0 rfl rfl (ix_in hc9) dX8_takes_42 ?_
            refine lv_icmp_gt (tgt := 50) hx hb dX8_takes_43 (by decide) (fun hc10 => ?_) (fun hc10 => ?_)
            · have hf := if_t hf hc10
              refine lv_iload_n hx hb dX8_takes_50 rfl (lv_at hl 2 rfl) ?_
              refine lv_istore_n (lv' := [(2, .int v2_5), (0, .ref a_m), (1, .int v1), (3, .int v3_5)]) hx hb dX8_takes_51 rfl hl (by decide) rfl (fun ls hl => ?_)
              refine lv_iinc (v := (v3_5 + (-1))) (lv' := [(3, .int (v3_5 + (-1))), (2, .int v2_5), (0, .ref a_m), (1, .int v1)]) hx hb dX8_takes_52 hl (k := 3) rfl (ii_m1 _) (by decide) rfl (fun ls hl => ?_)
              refine lv_goto (tgt := 5) hx hb dX8_takes_55 (by decide) ?_
              exact ih5 v2_5 (v3_5 + (-1)) hf _ _ _ ⟨hP, hD⟩ hS (lv_sub hl [2, 3, 1, 0] rfl)
            · have hf := if_f hf hc10
              refine lv_iload_n hx hb dX8_takes_46 rfl (lv_at hl 3 rfl) ?_
              refine lv_goto (tgt := 51) hx hb dX8_takes_47 (by decide) ?_
              refine lv_istore_n (lv' := [(2, .int v3_5), (0, .ref a_m), (1, .int v1), (3, .int v3_5)]) hx hb dX8_takes_51 rfl hl (by decide) rfl (fun ls hl => ?_)
              refine lv_iinc (v := (v3_5 + (-1))) (lv' := [(3, .int (v3_5 + (-1))), (2, .int v3_5), (0, .ref a_m), (1, .int v1)]) hx hb dX8_takes_52 hl (k := 3) rfl (ii_m1 _) (by decide) rfl (fun ls hl => ?_)
              refine lv_goto (tgt := 5) hx hb dX8_takes_55 (by decide) ?_
              exact ih5 v3_5 (v3_5 + (-1)) hf _ _ _ ⟨hP, hD⟩ hS (lv_sub hl [2, 3, 1, 0] rfl)
  refine lv_iconst (v := (-1)) hx hb dX8_takes_0 (by decide) ?_
  refine lv_istore_n (lv' := [(2, .int (-1)), (0, .ref a_m), (1, .int v1)]) hx hb dX8_takes_1 rfl hl (by decide) rfl (fun ls hl => ?_)
  refine lv_bipush (v := 6) hx hb dX8_takes_2 (by decide) ?_
  refine lv_istore_n (lv' := [(3, .int 6), (2, .int (-1)), (0, .ref a_m), (1, .int v1)]) hx hb dX8_takes_4 rfl hl (by decide) rfl (fun ls hl => ?_)
  exact L5  FU (-1) 6 hf _ _ _ ⟨hP, hD⟩ hS (lv_sub hl [2, 3, 1, 0] rfl)
abbrev rmX8_goes : Room := { frames := 1, cells := 0, slots := 0, locals := 23 }
theorem hiX8_goes_8 : ∀ w ∈ wsX80, w ∈ wsX8_goes := fun w h => (goodIn_r (big := wsX8_goes) wsX80 [8, 9, 10, 11, 12, 13, 14, 15, 16, 17, 18, 19, 20, 21, 22, 23, 24, 25, 26] rfl (by decide +kernel) w h).1
theorem cw_X8_goes_X8_takes_117 {s : State} {args : Array Value} (hts : ∀ x ∈ wsX8_goes, x.before args s = true) : CallW rmX8_goes s args RX8 RX8 117 yX8_takes cX8_takes 4 (some .int) wsX8_takes rmX8_takes 0 0 1 := cwV 1 hts gX8_goes_X8_takes rfl rfl rfl (by decide +kernel) ⟨Nat.le_of_ble_eq_true rfl, Nat.le_of_ble_eq_true rfl⟩
set_option maxRecDepth 100000 in
set_option maxHeartbeats 4000000 in
theorem c_X8_goes (l : Launch) (D : va_G) (cI cZ cR : ClassId) (a_m : Nat) (a_m_s : Nat) (a_m_told : Nat) (a_m_text : Nat) (a_m_draft : Nat) (a_m_past : Nat) (a_m_images : Nat) (a_m_kept : Nat) (a_m_notes : Nat) (a_m_noted : Nat) (a_m_held : Nat) (a_m_few : Nat) (m_trace : Int64) (m_typed : Int32) (m_known : Int32) (m_many : Int32) (m_at : Int32) (m_sort : Int32) (m_start : Int32) (m_value : Int32) (m_s : Nat → Int32) (m_told : Nat → Int32) (v1 : Int32) (v2 : Int32) (v3 : Int32) (out : Int32 × (Nat → Int32)) (hf : f_X8_goes m_s m_told v1 v2 v3 = some out) : Ci l yX8_goes wsX8_goes rmX8_goes D cI cZ cR [.ref a_m, .int v1, .int v2, .int v3] [(a_m, .inr (8, [.long m_trace, .ref a_m_text, .int m_typed, .ref a_m_told, .ref a_m_draft, .ref a_m_s, .ref a_m_past, .int m_known, .ref a_m_images, .ref a_m_kept, .ref a_m_notes, .ref a_m_noted, .int m_many, .int m_at, .int m_sort, .int m_start, .int m_value, .ref a_m_held, .ref a_m_few])), (a_m_s, .inl (cI, 51, .inl m_s)), (a_m_told, .inl (cI, 33, .inl m_told))] out.1 [(a_m, .inr (8, [.long m_trace, .ref a_m_text, .int m_typed, .ref a_m_told, .ref a_m_draft, .ref a_m_s, .ref a_m_past, .int m_known, .ref a_m_images, .ref a_m_kept, .ref a_m_notes, .ref a_m_noted, .int m_many, .int m_at, .int m_sort, .int m_start, .int m_value, .ref a_m_held, .ref a_m_few])), (a_m_s, .inl (cI, 51, .inl out.2)), (a_m_told, .inl (cI, 33, .inl m_told))] := by
  refine ent_i (cc := cX8_goes) (maxL := 6) .int (by decide) rfl (Nat.le_of_ble_eq_true rfl) ?_
  intro p e s m below meth c A Q hx hb hml hown hts hE hA hP hD hS hret ls hl
  have hown : s.vm.findClass RX8 = some m.cls := hown
  have hl : lv_has ls 6 [(0, .ref a_m), (1, .int v1), (2, .int v2), (3, .int v3)] := hl
  have fL19 := hts (.fieldLink RX8 19 "RainShelvesModel" "s" "[I") (List.mem_of_getElem? (i := 1) rfl)
  unfold f_X8_goes at hf
  have L18 : ∀ (n18 : Nat) (v4_18 : Int32) (v5_18 : Int32) (m_s_18 : Nat → Int32), f_X8_goes_L18 m_told v1 v2 v3 n18 v4_18 v5_18 m_s_18 = some out → ∀ (H : Heap) (locs : List Loc) (ls : Array Slot), PD D A [(a_m, .inr (8, [.long m_trace, .ref a_m_text, .int m_typed, .ref a_m_told, .ref a_m_draft, .ref a_m_s, .ref a_m_past, .int m_known, .ref a_m_images, .ref a_m_kept, .ref a_m_notes, .ref a_m_noted, .int m_many, .int m_at, .int m_sort, .int m_start, .int m_value, .ref a_m_held, .ref a_m_few])), (a_m_s, .inl (cI, 51, .inl m_s_18)), (a_m_told, .inl (cI, 33, .inl m_told))] H → va_S A s.heap H locs → lv_has ls 6 [(0, .ref a_m), (1, .int v1), (2, .int v2), (3, .int v3), (4, .int v4_18), (5, .int v5_18)] → W p l e rmX8_goes s m ([.ref a_m, .int v1, .int v2, .int v3] : List Value).toArray below meth c H locs 0 0 Q (F0 m 18 ls []) := by
    intro  n18
    induction n18 with
    | zero => intro v4_18 v5_18 m_s_18 hf; cases hf
    | succ n18 ih18 =>
      intro v4_18 v5_18 m_s_18 hf H locs ls hPD hS hl
      obtain ⟨hP, hD⟩ := hPD
      have hf : f_X8_goes_B18 m_told v1 v2 v3 (f_X8_goes_L18 m_told v1 v2 v3 n18) v4_18 v5_18 m_s_18 = some out := hf
      unfold f_X8_goes_B18 at hf
      have J57 : ∀ (m_s_57 : Nat → Int32), f_X8_goes_J57 m_told v4_18 v1 v2 (f_X8_goes_L18 m_told v1 v2 v3 n18) m_s_57 = some out → ∀ (H : Heap) (locs : List Loc) (ls : Array Slot), PD D A [(a_m, .inr (8, [.long m_trace, .ref a_m_text, .int m_typed, .ref a_m_told, .ref a_m_draft, .ref a_m_s, .ref a_m_past, .int m_known, .ref a_m_images, .ref a_m_kept, .ref a_m_notes, .ref a_m_noted, .int m_many, .int m_at, .int m_sort, .int m_start, .int m_value, .ref a_m_held, .ref a_m_few])), (a_m_s, .inl (cI, 51, .inl m_s_57)), (a_m_told, .inl (cI, 33, .inl m_told))] H → va_S A s.heap H locs → lv_has ls 6 [(0, .ref a_m), (1, .int v1), (2, .int v2), (3, .int v3), (4, .int v4_18)] → W p l e rmX8_goes s m ([.ref a_m, .int v1, .int v2, .int v3] : List Value).toArray below meth c H locs 0 0 Q (F0 m 57 ls []) := by
        intro m_s_57 hf H locs ls hPD hS hl
        obtain ⟨hP, hD⟩ := hPD
        unfold f_X8_goes_J57 at hf
        refine lv_iinc (v := (v4_18 + 1)) (lv' := [(4, .int (v4_18 + 1)), (0, .ref a_m), (1, .int v1), (2, .int v2), (3, .int v3)]) hx hb dX8_goes_57 hl (k := 4) rfl (ii_p1 _) (by decide) rfl (fun ls hl => ?_)
        refine lv_iload hx hb dX8_goes_60 (lv_at hl 0 rfl) ?_
        refine lv_iload_n hx hb dX8_goes_62 rfl (lv_at hl 3 rfl) ?_
        refine lv_icmp_ge (tgt := 74) hx hb dX8_goes_63 (by decide) (fun hc1 => ?_) (fun hc1 => ?_)
        · have hf := if_t hf hc1
          refine lv_iconst (v := (-1)) hx hb dX8_goes_74 (by decide) ?_
          refine lv_istore (lv' := [(5, .int (-1)), (4, .int (v4_18 + 1)), (0, .ref a_m), (1, .int v1), (2, .int v2), (3, .int v3)]) hx hb dX8_goes_75 hl (by decide) rfl (fun ls hl => ?_)
          refine lv_goto (tgt := 18) hx hb dX8_goes_77 (by decide) ?_
          exact ih18 (v4_18 + 1) (-1) m_s_57 hf _ _ _ ⟨hP, hD⟩ hS (lv_sub hl [2, 3, 4, 5, 1, 0] rfl)
        · have hf := if_f hf hc1
          refine lv_aload_n hx hb dX8_goes_66 rfl (lv_at hl 1 rfl) ?_
          refine lv_iload_n hx hb dX8_goes_67 rfl (lv_at hl 2 rfl) ?_
          obtain ⟨u1, hu1, hf⟩ := bd_some hf
          refine cl_iV (As := [.int v1]) (rest := []) ⟨hx, hb, hml, hown, hts⟩ (c_X8_takes l D cI cZ cR a_m a_m_s a_m_told a_m_text a_m_draft a_m_past a_m_images a_m_kept a_m_notes a_m_noted a_m_held a_m_few m_trace m_typed m_known m_many m_at m_sort m_start m_value m_s_57 m_told v1 u1 hu1) (cw_X8_goes_X8_takes_117 hts) hE hP hD hS hA [0, 1, 2] rfl rfl [a_m, a_m_s, a_m_told] rfl rfl 0 8 rfl rfl rfl hl.1 rfl (Nat.le_of_ble_eq_true rfl) dX8_goes_68 ⟨Nat.zero_le _, Nat.zero_le _⟩ (fun H locs hP hD hS => ?_)
          have hPD : PD D A [(a_m, .inr (8, [.long m_trace, .ref a_m_text, .int m_typed, .ref a_m_told, .ref a_m_draft, .ref a_m_s, .ref a_m_past, .int m_known, .ref a_m_images, .ref a_m_kept, .ref a_m_notes, .ref a_m_noted, .int m_many, .int m_at, .int m_sort, .int m_start, .int m_value, .ref a_m_held, .ref a_m_few])), (a_m_s, .inl (cI, 51, .inl u1.2)), (a_m_told, .inl (cI, 33, .inl m_told))] H := ⟨hP, hD⟩
          obtain ⟨hP, hD⟩ := hPD
          refine lv_goto (tgt := 75) hx hb dX8_goes_71 (by decide) ?_
          refine lv_istore (lv' := [(5, .int u1.1), (4, .int (v4_18 + 1)), (0, .ref a_m), (1, .int v1), (2, .int v2), (3, .int v3)]) hx hb dX8_goes_75 hl (by decide) rfl (fun ls hl => ?_)
          refine lv_goto (tgt := 18) hx hb dX8_goes_77 (by decide) ?_
          exact ih18 (v4_18 + 1) u1.1 u1.2 hf _ _ _ ⟨hP, hD⟩ hS (lv_sub hl [2, 3, 4, 5, 1, 0] rfl)
      refine lv_iload hx hb dX8_goes_18 (lv_at hl 5 rfl) ?_
      refine lv_if_lt (tgt := 80) hx hb dX8_goes_20 (by decide) (fun hc2 => ?_) (fun hc2 => ?_)
      · have hf := if_t hf hc2
        refine lv_iload hx hb dX8_goes_80 (lv_at hl 4 rfl) ?_
        have he := Option.some.inj hf
        subst he
        exact hret _ _ _ _ dX8_goes_82 rfl hP hD hS
      · have hf := if_f hf hc2
        refine lv_iload_n hx hb dX8_goes_23 rfl (lv_at hl 3 rfl) ?_
        refine lv_if_lt (tgt := 46) hx hb dX8_goes_24 (by decide) (fun hc3 => ?_) (fun hc3 => ?_)
        · have hf := if_t hf hc3
          refine lv_aload_n hx hb dX8_goes_46 rfl (lv_at hl 0 rfl) ?_
          refine va_get (D := D) (ci := 8) (v := .ref a_m_s) (C := RX8) (T := TX8) (N := 19) hx hb hts hiX8_goes_8 hown hE.1 hP 0 rfl rfl 5 (by decide) fL19 (fun _ h9 => h9) rfl dX8_goes_47 ?_
          refine lv_bipush (v := 50) hx hb dX8_goes_50 (by decide) ?_
          refine lv_dup2_11 hx hb dX8_goes_52 rfl rfl ?_
          obtain ⟨hc4, hf⟩ := ck_some hf
          refine va_iald hx hb hE.1 hP 1 0 rfl rfl (ix_in hc4) dX8_goes_53 ?_
          refine lv_iconst (v := 1) hx hb dX8_goes_54 (by decide) ?_
          refine lv_iadd hx hb dX8_goes_55 ?_
          obtain ⟨hc5, hf⟩ := ck_some hf
          refine va_iast hx hb hE.1 hP hD hS 1 0 rfl rfl (ix_in hc5) dX8_goes_56 (fun H locs hP hD hS => ?_)
          have hPD : PD D A [(a_m, .inr (8, [.long m_trace, .ref a_m_text, .int m_typed, .ref a_m_told, .ref a_m_draft, .ref a_m_s, .ref a_m_past, .int m_known, .ref a_m_images, .ref a_m_kept, .ref a_m_notes, .ref a_m_noted, .int m_many, .int m_at, .int m_sort, .int m_start, .int m_value, .ref a_m_held, .ref a_m_few])), (a_m_s, .inl (cI, 51, .inl (upd m_s_18 (50 : Int32).toNatClampNeg ((m_s_18 (50 : Int32).toNatClampNeg) + 1)))), (a_m_told, .inl (cI, 33, .inl m_told))] H := ⟨hP, hD⟩
          obtain ⟨hP, hD⟩ := hPD
          exact J57 (upd m_s_18 (50 : Int32).toNatClampNeg ((m_s_18 (50 : Int32).toNatClampNeg) + 1)) hf _ _ _ ⟨hP, hD⟩ hS (lv_sub hl [0, 1, 2, 3, 4] rfl)
        · have hf := if_f hf hc3
          refine lv_aload_n hx hb dX8_goes_27 rfl (lv_at hl 0 rfl) ?_
          refine va_get (D := D) (ci := 8) (v := .ref a_m_s) (C := RX8) (T := TX8) (N := 19) hx hb hts hiX8_goes_8 hown hE.1 hP 0 rfl rfl 5 (by decide) fL19 (fun _ h9 => h9) rfl dX8_goes_28 ?_
          refine lv_bipush (v := 7) hx hb dX8_goes_31 (by decide) ?_
          refine lv_iload_n hx hb dX8_goes_33 rfl (lv_at hl 3 rfl) ?_
          refine lv_imul hx hb dX8_goes_34 ?_
          refine lv_iload hx hb dX8_goes_35 (lv_at hl 5 rfl) ?_
          refine lv_iadd hx hb dX8_goes_37 ?_
          refine lv_dup2_11 hx hb dX8_goes_38 rfl rfl ?_
          obtain ⟨hc6, hf⟩ := ck_some hf
          refine va_iald hx hb hE.1 hP 1 0 rfl rfl (ix_in hc6) dX8_goes_39 ?_
          refine lv_iconst (v := 1) hx hb dX8_goes_40 (by decide) ?_
          refine lv_iadd hx hb dX8_goes_41 ?_
          obtain ⟨hc7, hf⟩ := ck_some hf
          refine va_iast hx hb hE.1 hP hD hS 1 0 rfl rfl (ix_in hc7) dX8_goes_42 (fun H locs hP hD hS => ?_)
          have hPD : PD D A [(a_m, .inr (8, [.long m_trace, .ref a_m_text, .int m_typed, .ref a_m_told, .ref a_m_draft, .ref a_m_s, .ref a_m_past, .int m_known, .ref a_m_images, .ref a_m_kept, .ref a_m_notes, .ref a_m_noted, .int m_many, .int m_at, .int m_sort, .int m_start, .int m_value, .ref a_m_held, .ref a_m_few])), (a_m_s, .inl (cI, 51, .inl (upd m_s_18 ((7 * v3) + v5_18).toNatClampNeg ((m_s_18 ((7 * v3) + v5_18).toNatClampNeg) + 1)))), (a_m_told, .inl (cI, 33, .inl m_told))] H := ⟨hP, hD⟩
          obtain ⟨hP, hD⟩ := hPD
          refine lv_goto (tgt := 57) hx hb dX8_goes_43 (by decide) ?_
          exact J57 (upd m_s_18 ((7 * v3) + v5_18).toNatClampNeg ((m_s_18 ((7 * v3) + v5_18).toNatClampNeg) + 1)) hf _ _ _ ⟨hP, hD⟩ hS (lv_sub hl [0, 1, 2, 3, 4] rfl)
  refine lv_iconst (v := 0) hx hb dX8_goes_0 (by decide) ?_
  refine lv_istore (lv' := [(4, .int 0), (0, .ref a_m), (1, .int v1), (2, .int v2), (3, .int v3)]) hx hb dX8_goes_1 hl (by decide) rfl (fun ls hl => ?_)
  refine lv_iload_n hx hb dX8_goes_3 rfl (lv_at hl 3 rfl) ?_
  refine lv_if_le (tgt := 15) hx hb dX8_goes_4 (by decide) (fun hc8 => ?_) (fun hc8 => ?_)
  · have hf := if_t hf hc8
    refine lv_iconst (v := (-1)) hx hb dX8_goes_15 (by decide) ?_
    refine lv_istore (lv' := [(5, .int (-1)), (4, .int 0), (0, .ref a_m), (1, .int v1), (2, .int v2), (3, .int v3)]) hx hb dX8_goes_16 hl (by decide) rfl (fun ls hl => ?_)
    exact L18  FU 0 (-1) m_s hf _ _ _ ⟨hP, hD⟩ hS (lv_sub hl [2, 3, 4, 5, 1, 0] rfl)
  · have hf := if_f hf hc8
    refine lv_aload_n hx hb dX8_goes_7 rfl (lv_at hl 1 rfl) ?_
    refine lv_iload_n hx hb dX8_goes_8 rfl (lv_at hl 2 rfl) ?_
    obtain ⟨u2, hu2, hf⟩ := bd_some hf
    refine cl_iV (As := [.int v1]) (rest := []) ⟨hx, hb, hml, hown, hts⟩ (c_X8_takes l D cI cZ cR a_m a_m_s a_m_told a_m_text a_m_draft a_m_past a_m_images a_m_kept a_m_notes a_m_noted a_m_held a_m_few m_trace m_typed m_known m_many m_at m_sort m_start m_value m_s m_told v1 u2 hu2) (cw_X8_goes_X8_takes_117 hts) hE hP hD hS hA [0, 1, 2] rfl rfl [a_m, a_m_s, a_m_told] rfl rfl 0 8 rfl rfl rfl hl.1 rfl (Nat.le_of_ble_eq_true rfl) dX8_goes_9 ⟨Nat.zero_le _, Nat.zero_le _⟩ (fun H locs hP hD hS => ?_)
    have hPD : PD D A [(a_m, .inr (8, [.long m_trace, .ref a_m_text, .int m_typed, .ref a_m_told, .ref a_m_draft, .ref a_m_s, .ref a_m_past, .int m_known, .ref a_m_images, .ref a_m_kept, .ref a_m_notes, .ref a_m_noted, .int m_many, .int m_at, .int m_sort, .int m_start, .int m_value, .ref a_m_held, .ref a_m_few])), (a_m_s, .inl (cI, 51, .inl u2.2)), (a_m_told, .inl (cI, 33, .inl m_told))] H := ⟨hP, hD⟩
    obtain ⟨hP, hD⟩ := hPD
    refine lv_goto (tgt := 16) hx hb dX8_goes_12 (by decide) ?_
    refine lv_istore (lv' := [(5, .int u2.1), (4, .int 0), (0, .ref a_m), (1, .int v1), (2, .int v2), (3, .int v3)]) hx hb dX8_goes_16 hl (by decide) rfl (fun ls hl => ?_)
    exact L18  FU 0 u2.1 u2.2 hf _ _ _ ⟨hP, hD⟩ hS (lv_sub hl [2, 3, 4, 5, 1, 0] rfl)
abbrev rmX8_uses : Room := { frames := 2, cells := 0, slots := 0, locals := 48 }
theorem cw_X8_uses_X8_isPan_104 {s : State} {args : Array Value} (hts : ∀ x ∈ wsX8_uses, x.before args s = true) : CallW rmX8_uses s args RX8 RX8 104 yX8_isPan cX8_isPan 2 (some .boolean) wsX8_isPan rmX8_isPan 0 0 1 := cwV 1 hts gX8_uses_X8_isPan rfl rfl rfl (by decide +kernel) ⟨Nat.le_of_ble_eq_true rfl, Nat.le_of_ble_eq_true rfl⟩
theorem cw_X8_uses_X8_in_51 {s : State} {args : Array Value} (hts : ∀ x ∈ wsX8_uses, x.before args s = true) : CallB rmX8_uses s args RX8 51 yX8_in cX8_in 3 (some .boolean) wsX8_in rmX8_in 0 0 3 ∧ (Cond.static yX8_in).before args s = true := va_cwS 3 hts gX8_uses_X8_in rfl rfl rfl (by decide +kernel) ⟨Nat.le_of_ble_eq_true rfl, Nat.le_of_ble_eq_true rfl⟩
theorem cw_X8_uses_X8_full_98 {s : State} {args : Array Value} (hts : ∀ x ∈ wsX8_uses, x.before args s = true) : CallW rmX8_uses s args RX8 RX8 98 yX8_full cX8_full 4 (some .int) wsX8_full rmX8_full 0 0 1 := cwV 1 hts gX8_uses_X8_full rfl rfl rfl (by decide +kernel) ⟨Nat.le_of_ble_eq_true rfl, Nat.le_of_ble_eq_true rfl⟩
theorem cw_X8_uses_X8_keeps_120 {s : State} {args : Array Value} (hts : ∀ x ∈ wsX8_uses, x.before args s = true) : CallW rmX8_uses s args RX8 RX8 120 yX8_keeps cX8_keeps 2 none wsX8_keeps rmX8_keeps 0 0 0 := cwV 0 hts gX8_uses_X8_keeps rfl rfl rfl (by decide +kernel) ⟨Nat.le_of_ble_eq_true rfl, Nat.le_of_ble_eq_true rfl⟩
theorem cw_X8_uses_X8_goes_123 {s : State} {args : Array Value} (hts : ∀ x ∈ wsX8_uses, x.before args s = true) : CallW rmX8_uses s args RX8 RX8 123 yX8_goes cX8_goes 6 (some .int) wsX8_goes rmX8_goes 0 0 3 := cwV 3 hts gX8_uses_X8_goes rfl rfl rfl (by decide +kernel) ⟨Nat.le_of_ble_eq_true rfl, Nat.le_of_ble_eq_true rfl⟩
set_option maxRecDepth 100000 in
set_option maxHeartbeats 4000000 in
theorem c_X8_uses (l : Launch) (D : va_G) (cI cZ cR : ClassId) (a_m : Nat) (a_m_told : Nat) (a_m_s : Nat) (a_m_past : Nat) (a_m_text : Nat) (a_m_draft : Nat) (a_m_images : Nat) (a_m_kept : Nat) (a_m_notes : Nat) (a_m_noted : Nat) (a_m_held : Nat) (a_m_few : Nat) (m_trace : Int64) (m_typed : Int32) (m_known : Int32) (m_many : Int32) (m_at : Int32) (m_sort : Int32) (m_start : Int32) (m_value : Int32) (m_told : Nat → Int32) (m_s : Nat → Int32) (m_past : Nat → Int32) (v1 : Int32) (v2 : Int32) (out : Int32 × Int32 × (Nat → Int32) × (Nat → Int32)) (hf : f_X8_uses m_known m_told m_s m_past v1 v2 = some out) : Ci l yX8_uses wsX8_uses rmX8_uses D cI cZ cR [.ref a_m, .int v1, .int v2] [(a_m, .inr (8, [.long m_trace, .ref a_m_text, .int m_typed, .ref a_m_told, .ref a_m_draft, .ref a_m_s, .ref a_m_past, .int m_known, .ref a_m_images, .ref a_m_kept, .ref a_m_notes, .ref a_m_noted, .int m_many, .int m_at, .int m_sort, .int m_start, .int m_value, .ref a_m_held, .ref a_m_few])), (a_m_told, .inl (cI, 33, .inl m_told)), (a_m_s, .inl (cI, 51, .inl m_s)), (a_m_past, .inl (cI, 510, .inl m_past))] out.1 [(a_m, .inr (8, [.long m_trace, .ref a_m_text, .int m_typed, .ref a_m_told, .ref a_m_draft, .ref a_m_s, .ref a_m_past, .int out.2.1, .ref a_m_images, .ref a_m_kept, .ref a_m_notes, .ref a_m_noted, .int m_many, .int m_at, .int m_sort, .int m_start, .int m_value, .ref a_m_held, .ref a_m_few])), (a_m_told, .inl (cI, 33, .inl m_told)), (a_m_s, .inl (cI, 51, .inl out.2.2.1)), (a_m_past, .inl (cI, 510, .inl out.2.2.2))] := by
  refine ent_i (cc := cX8_uses) (maxL := 3) .int (by decide) rfl (Nat.le_of_ble_eq_true rfl) ?_
  intro p e s m below meth c A Q hx hb hml hown hts hE hA hP hD hS hret ls hl
  have hown : s.vm.findClass RX8 = some m.cls := hown
  have hl : lv_has ls 3 [(0, .ref a_m), (1, .int v1), (2, .int v2)] := hl
  unfold f_X8_uses at hf
  refine lv_aload_n hx hb dX8_uses_0 rfl (lv_at hl 0 rfl) ?_
  refine lv_iload_n hx hb dX8_uses_1 rfl (lv_at hl 1 rfl) ?_
  obtain ⟨u1, hu1, hf⟩ := bd_some hf
  refine cl_iV (As := [.int v1]) (rest := []) ⟨hx, hb, hml, hown, hts⟩ (c_X8_isPan l D cI cZ cR a_m a_m_told a_m_text a_m_draft a_m_s a_m_past a_m_images a_m_kept a_m_notes a_m_noted a_m_held a_m_few m_trace m_typed m_known m_many m_at m_sort m_start m_value m_told v1 u1 hu1) (cw_X8_uses_X8_isPan_104 hts) hE hP hD hS hA [0, 1] rfl rfl [a_m, a_m_told] rfl rfl 0 8 rfl rfl rfl hl.1 rfl (Nat.le_of_ble_eq_true rfl) dX8_uses_2 ⟨Nat.zero_le _, Nat.zero_le _⟩ (fun H locs hP hD hS => ?_)
  have hPD : PD D A [(a_m, .inr (8, [.long m_trace, .ref a_m_text, .int m_typed, .ref a_m_told, .ref a_m_draft, .ref a_m_s, .ref a_m_past, .int m_known, .ref a_m_images, .ref a_m_kept, .ref a_m_notes, .ref a_m_noted, .int m_many, .int m_at, .int m_sort, .int m_start, .int m_value, .ref a_m_held, .ref a_m_few])), (a_m_told, .inl (cI, 33, .inl m_told)), (a_m_s, .inl (cI, 51, .inl m_s)), (a_m_past, .inl (cI, 510, .inl m_past))] H := ⟨hP, hD⟩
  obtain ⟨hP, hD⟩ := hPD
  refine lv_if_eq (tgt := 18) hx hb dX8_uses_5 (by decide) (fun hc1 => ?_) (fun hc1 => ?_)
  · have hf := if_t hf hc1
    refine lv_iconst (v := (-1)) hx hb dX8_uses_18 (by decide) ?_
    have he := Option.some.inj hf
    subst he
    exact hret _ _ _ _ dX8_uses_19 rfl hP hD hS
  · have hf := if_f hf hc1
    refine lv_iload_n hx hb dX8_uses_8 rfl (lv_at hl 2 rfl) ?_
    refine lv_iconst (v := 1) hx hb dX8_uses_9 (by decide) ?_
    refine lv_bipush (v := 99) hx hb dX8_uses_10 (by decide) ?_
    obtain ⟨u2, hu2, hf⟩ := bd_some hf
    refine cl_iS (As := [.int v2, .int 1, .int 99]) (rest := []) ⟨hx, hb, hml, hown, hts⟩ (c_X8_in l D cI cZ cR   v2 1 99 u2 hu2) (cw_X8_uses_X8_in_51 hts) hE hP hD hS hA rfl hl.1 rfl (Nat.le_of_ble_eq_true rfl) dX8_uses_12 ⟨Nat.zero_le _, Nat.zero_le _⟩ (fun H locs hP hS => ?_)
    refine lv_if_ne (tgt := 20) hx hb dX8_uses_15 (by decide) (fun hc2 => ?_) (fun hc2 => ?_)
    · have hf := if_f hf hc2
      refine lv_aload_n hx hb dX8_uses_20 rfl (lv_at hl 0 rfl) ?_
      refine lv_iload_n hx hb dX8_uses_21 rfl (lv_at hl 1 rfl) ?_
      obtain ⟨u3, hu3, hf⟩ := bd_some hf
      refine cl_iV (As := [.int v1]) (rest := []) ⟨hx, hb, hml, hown, hts⟩ (c_X8_full l D cI cZ cR a_m a_m_s a_m_text a_m_told a_m_draft a_m_past a_m_images a_m_kept a_m_notes a_m_noted a_m_held a_m_few m_trace m_typed m_known m_many m_at m_sort m_start m_value m_s v1 u3 hu3) (cw_X8_uses_X8_full_98 hts) hE hP hD hS hA [0, 2] rfl rfl [a_m, a_m_s] rfl rfl 0 8 rfl rfl rfl hl.1 rfl (Nat.le_of_ble_eq_true rfl) dX8_uses_22 ⟨Nat.zero_le _, Nat.zero_le _⟩ (fun H locs hP hD hS => ?_)
      have hPD : PD D A [(a_m, .inr (8, [.long m_trace, .ref a_m_text, .int m_typed, .ref a_m_told, .ref a_m_draft, .ref a_m_s, .ref a_m_past, .int m_known, .ref a_m_images, .ref a_m_kept, .ref a_m_notes, .ref a_m_noted, .int m_many, .int m_at, .int m_sort, .int m_start, .int m_value, .ref a_m_held, .ref a_m_few])), (a_m_told, .inl (cI, 33, .inl m_told)), (a_m_s, .inl (cI, 51, .inl m_s)), (a_m_past, .inl (cI, 510, .inl m_past))] H := ⟨hP, hD⟩
      obtain ⟨hP, hD⟩ := hPD
      refine lv_if_ne (tgt := 31) hx hb dX8_uses_25 (by decide) (fun hc3 => ?_) (fun hc3 => ?_)
      · have hf := if_f hf hc3
        refine lv_aload_n hx hb dX8_uses_31 rfl (lv_at hl 0 rfl) ?_
        obtain ⟨u4, hu4, hf⟩ := bd_some hf
        refine cl_vV (As := []) (rest := []) ⟨hx, hb, hml, hown, hts⟩ (c_X8_keeps l D cI cZ cR a_m a_m_past a_m_s a_m_text a_m_told a_m_draft a_m_images a_m_kept a_m_notes a_m_noted a_m_held a_m_few m_trace m_typed m_known m_many m_at m_sort m_start m_value m_past m_s  u4 hu4) (cw_X8_uses_X8_keeps_120 hts) hE hP hD hS hA [0, 3, 2] rfl rfl [a_m, a_m_past, a_m_s] rfl rfl 0 8 rfl rfl rfl hl.1 rfl (Nat.le_of_ble_eq_true rfl) dX8_uses_32 ⟨Nat.zero_le _, Nat.zero_le _⟩ (fun H locs hP hD hS => ?_)
        have hPD : PD D A [(a_m, .inr (8, [.long m_trace, .ref a_m_text, .int m_typed, .ref a_m_told, .ref a_m_draft, .ref a_m_s, .ref a_m_past, .int u4.1, .ref a_m_images, .ref a_m_kept, .ref a_m_notes, .ref a_m_noted, .int m_many, .int m_at, .int m_sort, .int m_start, .int m_value, .ref a_m_held, .ref a_m_few])), (a_m_told, .inl (cI, 33, .inl m_told)), (a_m_s, .inl (cI, 51, .inl m_s)), (a_m_past, .inl (cI, 510, .inl u4.2))] H := ⟨hP, hD⟩
        obtain ⟨hP, hD⟩ := hPD
        refine lv_aload_n hx hb dX8_uses_35 rfl (lv_at hl 0 rfl) ?_
        refine lv_iload_n hx hb dX8_uses_36 rfl (lv_at hl 1 rfl) ?_
        refine lv_iload_n hx hb dX8_uses_37 rfl (lv_at hl 2 rfl) ?_
        refine lv_iconst (v := (-1)) hx hb dX8_uses_38 (by decide) ?_
        obtain ⟨u5, hu5, hf⟩ := bd_some hf
        refine cl_iV (As := [.int v1, .int v2, .int (-1)]) (rest := []) ⟨hx, hb, hml, hown, hts⟩ (c_X8_goes l D cI cZ cR a_m a_m_s a_m_told a_m_text a_m_draft a_m_past a_m_images a_m_kept a_m_notes a_m_noted a_m_held a_m_few m_trace m_typed u4.1 m_many m_at m_sort m_start m_value m_s m_told v1 v2 (-1) u5 hu5) (cw_X8_uses_X8_goes_123 hts) hE hP hD hS hA [0, 2, 1] rfl rfl [a_m, a_m_s, a_m_told] rfl rfl 0 8 rfl rfl rfl hl.1 rfl (Nat.le_of_ble_eq_true rfl) dX8_uses_39 ⟨Nat.zero_le _, Nat.zero_le _⟩ (fun H locs hP hD hS => ?_)
        have hPD : PD D A [(a_m, .inr (8, [.long m_trace, .ref a_m_text, .int m_typed, .ref a_m_told, .ref a_m_draft, .ref a_m_s, .ref a_m_past, .int u4.1, .ref a_m_images, .ref a_m_kept, .ref a_m_notes, .ref a_m_noted, .int m_many, .int m_at, .int m_sort, .int m_start, .int m_value, .ref a_m_held, .ref a_m_few])), (a_m_told, .inl (cI, 33, .inl m_told)), (a_m_s, .inl (cI, 51, .inl u5.2)), (a_m_past, .inl (cI, 510, .inl u4.2))] H := ⟨hP, hD⟩
        obtain ⟨hP, hD⟩ := hPD
        have he := Option.some.inj hf
        subst he
        exact hret _ _ _ _ dX8_uses_42 rfl hP hD hS
      · have hf := if_t hf hc3
        refine lv_bipush (v := (-2)) hx hb dX8_uses_28 (by decide) ?_
        have he := Option.some.inj hf
        subst he
        exact hret _ _ _ _ dX8_uses_30 rfl hP hD hS
    · have hf := if_t hf hc2
      refine lv_iconst (v := (-1)) hx hb dX8_uses_18 (by decide) ?_
      have he := Option.some.inj hf
      subst he
      exact hret _ _ _ _ dX8_uses_19 rfl hP hD hS
abbrev rmX8_pours : Room := { frames := 2, cells := 0, slots := 0, locals := 48 }
theorem cw_X8_pours_X8_isPan_104 {s : State} {args : Array Value} (hts : ∀ x ∈ wsX8_pours, x.before args s = true) : CallW rmX8_pours s args RX8 RX8 104 yX8_isPan cX8_isPan 2 (some .boolean) wsX8_isPan rmX8_isPan 0 0 1 := cwV 1 hts gX8_pours_X8_isPan rfl rfl rfl (by decide +kernel) ⟨Nat.le_of_ble_eq_true rfl, Nat.le_of_ble_eq_true rfl⟩
theorem cw_X8_pours_X8_in_51 {s : State} {args : Array Value} (hts : ∀ x ∈ wsX8_pours, x.before args s = true) : CallB rmX8_pours s args RX8 51 yX8_in cX8_in 3 (some .boolean) wsX8_in rmX8_in 0 0 3 ∧ (Cond.static yX8_in).before args s = true := va_cwS 3 hts gX8_pours_X8_in rfl rfl rfl (by decide +kernel) ⟨Nat.le_of_ble_eq_true rfl, Nat.le_of_ble_eq_true rfl⟩
theorem cw_X8_pours_X8_full_98 {s : State} {args : Array Value} (hts : ∀ x ∈ wsX8_pours, x.before args s = true) : CallW rmX8_pours s args RX8 RX8 98 yX8_full cX8_full 4 (some .int) wsX8_full rmX8_full 0 0 1 := cwV 1 hts gX8_pours_X8_full rfl rfl rfl (by decide +kernel) ⟨Nat.le_of_ble_eq_true rfl, Nat.le_of_ble_eq_true rfl⟩
theorem cw_X8_pours_X8_keeps_120 {s : State} {args : Array Value} (hts : ∀ x ∈ wsX8_pours, x.before args s = true) : CallW rmX8_pours s args RX8 RX8 120 yX8_keeps cX8_keeps 2 none wsX8_keeps rmX8_keeps 0 0 0 := cwV 0 hts gX8_pours_X8_keeps rfl rfl rfl (by decide +kernel) ⟨Nat.le_of_ble_eq_true rfl, Nat.le_of_ble_eq_true rfl⟩
theorem cw_X8_pours_X8_goes_123 {s : State} {args : Array Value} (hts : ∀ x ∈ wsX8_pours, x.before args s = true) : CallW rmX8_pours s args RX8 RX8 123 yX8_goes cX8_goes 6 (some .int) wsX8_goes rmX8_goes 0 0 3 := cwV 3 hts gX8_pours_X8_goes rfl rfl rfl (by decide +kernel) ⟨Nat.le_of_ble_eq_true rfl, Nat.le_of_ble_eq_true rfl⟩
set_option maxRecDepth 100000 in
set_option maxHeartbeats 4000000 in
theorem c_X8_pours (l : Launch) (D : va_G) (cI cZ cR : ClassId) (a_m : Nat) (a_m_told : Nat) (a_m_s : Nat) (a_m_past : Nat) (a_m_text : Nat) (a_m_draft : Nat) (a_m_images : Nat) (a_m_kept : Nat) (a_m_notes : Nat) (a_m_noted : Nat) (a_m_held : Nat) (a_m_few : Nat) (m_trace : Int64) (m_typed : Int32) (m_known : Int32) (m_many : Int32) (m_at : Int32) (m_sort : Int32) (m_start : Int32) (m_value : Int32) (m_told : Nat → Int32) (m_s : Nat → Int32) (m_past : Nat → Int32) (v1 : Int32) (v2 : Int32) (v3 : Int32) (out : Int32 × Int32 × (Nat → Int32) × (Nat → Int32)) (hf : f_X8_pours m_known m_told m_s m_past v1 v2 v3 = some out) : Ci l yX8_pours wsX8_pours rmX8_pours D cI cZ cR [.ref a_m, .int v1, .int v2, .int v3] [(a_m, .inr (8, [.long m_trace, .ref a_m_text, .int m_typed, .ref a_m_told, .ref a_m_draft, .ref a_m_s, .ref a_m_past, .int m_known, .ref a_m_images, .ref a_m_kept, .ref a_m_notes, .ref a_m_noted, .int m_many, .int m_at, .int m_sort, .int m_start, .int m_value, .ref a_m_held, .ref a_m_few])), (a_m_told, .inl (cI, 33, .inl m_told)), (a_m_s, .inl (cI, 51, .inl m_s)), (a_m_past, .inl (cI, 510, .inl m_past))] out.1 [(a_m, .inr (8, [.long m_trace, .ref a_m_text, .int m_typed, .ref a_m_told, .ref a_m_draft, .ref a_m_s, .ref a_m_past, .int out.2.1, .ref a_m_images, .ref a_m_kept, .ref a_m_notes, .ref a_m_noted, .int m_many, .int m_at, .int m_sort, .int m_start, .int m_value, .ref a_m_held, .ref a_m_few])), (a_m_told, .inl (cI, 33, .inl m_told)), (a_m_s, .inl (cI, 51, .inl out.2.2.1)), (a_m_past, .inl (cI, 510, .inl out.2.2.2))] := by
  refine ent_i (cc := cX8_pours) (maxL := 4) .int (by decide) rfl (Nat.le_of_ble_eq_true rfl) ?_
  intro p e s m below meth c A Q hx hb hml hown hts hE hA hP hD hS hret ls hl
  have hown : s.vm.findClass RX8 = some m.cls := hown
  have hl : lv_has ls 4 [(0, .ref a_m), (1, .int v1), (2, .int v2), (3, .int v3)] := hl
  unfold f_X8_pours at hf
  refine lv_aload_n hx hb dX8_pours_0 rfl (lv_at hl 0 rfl) ?_
  refine lv_iload_n hx hb dX8_pours_1 rfl (lv_at hl 1 rfl) ?_
  obtain ⟨u1, hu1, hf⟩ := bd_some hf
  refine cl_iV (As := [.int v1]) (rest := []) ⟨hx, hb, hml, hown, hts⟩ (c_X8_isPan l D cI cZ cR a_m a_m_told a_m_text a_m_draft a_m_s a_m_past a_m_images a_m_kept a_m_notes a_m_noted a_m_held a_m_few m_trace m_typed m_known m_many m_at m_sort m_start m_value m_told v1 u1 hu1) (cw_X8_pours_X8_isPan_104 hts) hE hP hD hS hA [0, 1] rfl rfl [a_m, a_m_told] rfl rfl 0 8 rfl rfl rfl hl.1 rfl (Nat.le_of_ble_eq_true rfl) dX8_pours_2 ⟨Nat.zero_le _, Nat.zero_le _⟩ (fun H locs hP hD hS => ?_)
  have hPD : PD D A [(a_m, .inr (8, [.long m_trace, .ref a_m_text, .int m_typed, .ref a_m_told, .ref a_m_draft, .ref a_m_s, .ref a_m_past, .int m_known, .ref a_m_images, .ref a_m_kept, .ref a_m_notes, .ref a_m_noted, .int m_many, .int m_at, .int m_sort, .int m_start, .int m_value, .ref a_m_held, .ref a_m_few])), (a_m_told, .inl (cI, 33, .inl m_told)), (a_m_s, .inl (cI, 51, .inl m_s)), (a_m_past, .inl (cI, 510, .inl m_past))] H := ⟨hP, hD⟩
  obtain ⟨hP, hD⟩ := hPD
  refine lv_if_eq (tgt := 31) hx hb dX8_pours_5 (by decide) (fun hc1 => ?_) (fun hc1 => ?_)
  · have hf := if_t hf hc1
    refine lv_iconst (v := (-1)) hx hb dX8_pours_31 (by decide) ?_
    have he := Option.some.inj hf
    subst he
    exact hret _ _ _ _ dX8_pours_32 rfl hP hD hS
  · have hf := if_f hf hc1
    refine lv_aload_n hx hb dX8_pours_8 rfl (lv_at hl 0 rfl) ?_
    refine lv_iload_n hx hb dX8_pours_9 rfl (lv_at hl 2 rfl) ?_
    obtain ⟨u2, hu2, hf⟩ := bd_some hf
    refine cl_iV (As := [.int v2]) (rest := []) ⟨hx, hb, hml, hown, hts⟩ (c_X8_isPan l D cI cZ cR a_m a_m_told a_m_text a_m_draft a_m_s a_m_past a_m_images a_m_kept a_m_notes a_m_noted a_m_held a_m_few m_trace m_typed m_known m_many m_at m_sort m_start m_value m_told v2 u2 hu2) (cw_X8_pours_X8_isPan_104 hts) hE hP hD hS hA [0, 1] rfl rfl [a_m, a_m_told] rfl rfl 0 8 rfl rfl rfl hl.1 rfl (Nat.le_of_ble_eq_true rfl) dX8_pours_10 ⟨Nat.zero_le _, Nat.zero_le _⟩ (fun H locs hP hD hS => ?_)
    have hPD : PD D A [(a_m, .inr (8, [.long m_trace, .ref a_m_text, .int m_typed, .ref a_m_told, .ref a_m_draft, .ref a_m_s, .ref a_m_past, .int m_known, .ref a_m_images, .ref a_m_kept, .ref a_m_notes, .ref a_m_noted, .int m_many, .int m_at, .int m_sort, .int m_start, .int m_value, .ref a_m_held, .ref a_m_few])), (a_m_told, .inl (cI, 33, .inl m_told)), (a_m_s, .inl (cI, 51, .inl m_s)), (a_m_past, .inl (cI, 510, .inl m_past))] H := ⟨hP, hD⟩
    obtain ⟨hP, hD⟩ := hPD
    refine lv_if_eq (tgt := 31) hx hb dX8_pours_13 (by decide) (fun hc2 => ?_) (fun hc2 => ?_)
    · have hf := if_t hf hc2
      refine lv_iconst (v := (-1)) hx hb dX8_pours_31 (by decide) ?_
      have he := Option.some.inj hf
      subst he
      exact hret _ _ _ _ dX8_pours_32 rfl hP hD hS
    · have hf := if_f hf hc2
      refine lv_iload_n hx hb dX8_pours_16 rfl (lv_at hl 1 rfl) ?_
      refine lv_iload_n hx hb dX8_pours_17 rfl (lv_at hl 2 rfl) ?_
      refine lv_icmp_eq (tgt := 31) hx hb dX8_pours_18 (by decide) (fun hc3 => ?_) (fun hc3 => ?_)
      · have hf := if_t hf hc3
        refine lv_iconst (v := (-1)) hx hb dX8_pours_31 (by decide) ?_
        have he := Option.some.inj hf
        subst he
        exact hret _ _ _ _ dX8_pours_32 rfl hP hD hS
      · have hf := if_f hf hc3
        refine lv_iload_n hx hb dX8_pours_21 rfl (lv_at hl 3 rfl) ?_
        refine lv_iconst (v := 1) hx hb dX8_pours_22 (by decide) ?_
        refine lv_bipush (v := 99) hx hb dX8_pours_23 (by decide) ?_
        obtain ⟨u3, hu3, hf⟩ := bd_some hf
        refine cl_iS (As := [.int v3, .int 1, .int 99]) (rest := []) ⟨hx, hb, hml, hown, hts⟩ (c_X8_in l D cI cZ cR   v3 1 99 u3 hu3) (cw_X8_pours_X8_in_51 hts) hE hP hD hS hA rfl hl.1 rfl (Nat.le_of_ble_eq_true rfl) dX8_pours_25 ⟨Nat.zero_le _, Nat.zero_le _⟩ (fun H locs hP hS => ?_)
        refine lv_if_ne (tgt := 33) hx hb dX8_pours_28 (by decide) (fun hc4 => ?_) (fun hc4 => ?_)
        · have hf := if_f hf hc4
          refine lv_aload_n hx hb dX8_pours_33 rfl (lv_at hl 0 rfl) ?_
          refine lv_iload_n hx hb dX8_pours_34 rfl (lv_at hl 1 rfl) ?_
          obtain ⟨u4, hu4, hf⟩ := bd_some hf
          refine cl_iV (As := [.int v1]) (rest := []) ⟨hx, hb, hml, hown, hts⟩ (c_X8_full l D cI cZ cR a_m a_m_s a_m_text a_m_told a_m_draft a_m_past a_m_images a_m_kept a_m_notes a_m_noted a_m_held a_m_few m_trace m_typed m_known m_many m_at m_sort m_start m_value m_s v1 u4 hu4) (cw_X8_pours_X8_full_98 hts) hE hP hD hS hA [0, 2] rfl rfl [a_m, a_m_s] rfl rfl 0 8 rfl rfl rfl hl.1 rfl (Nat.le_of_ble_eq_true rfl) dX8_pours_35 ⟨Nat.zero_le _, Nat.zero_le _⟩ (fun H locs hP hD hS => ?_)
          have hPD : PD D A [(a_m, .inr (8, [.long m_trace, .ref a_m_text, .int m_typed, .ref a_m_told, .ref a_m_draft, .ref a_m_s, .ref a_m_past, .int m_known, .ref a_m_images, .ref a_m_kept, .ref a_m_notes, .ref a_m_noted, .int m_many, .int m_at, .int m_sort, .int m_start, .int m_value, .ref a_m_held, .ref a_m_few])), (a_m_told, .inl (cI, 33, .inl m_told)), (a_m_s, .inl (cI, 51, .inl m_s)), (a_m_past, .inl (cI, 510, .inl m_past))] H := ⟨hP, hD⟩
          obtain ⟨hP, hD⟩ := hPD
          refine lv_if_ne (tgt := 44) hx hb dX8_pours_38 (by decide) (fun hc5 => ?_) (fun hc5 => ?_)
          · have hf := if_f hf hc5
            refine lv_aload_n hx hb dX8_pours_44 rfl (lv_at hl 0 rfl) ?_
            obtain ⟨u5, hu5, hf⟩ := bd_some hf
            refine cl_vV (As := []) (rest := []) ⟨hx, hb, hml, hown, hts⟩ (c_X8_keeps l D cI cZ cR a_m a_m_past a_m_s a_m_text a_m_told a_m_draft a_m_images a_m_kept a_m_notes a_m_noted a_m_held a_m_few m_trace m_typed m_known m_many m_at m_sort m_start m_value m_past m_s  u5 hu5) (cw_X8_pours_X8_keeps_120 hts) hE hP hD hS hA [0, 3, 2] rfl rfl [a_m, a_m_past, a_m_s] rfl rfl 0 8 rfl rfl rfl hl.1 rfl (Nat.le_of_ble_eq_true rfl) dX8_pours_45 ⟨Nat.zero_le _, Nat.zero_le _⟩ (fun H locs hP hD hS => ?_)
            have hPD : PD D A [(a_m, .inr (8, [.long m_trace, .ref a_m_text, .int m_typed, .ref a_m_told, .ref a_m_draft, .ref a_m_s, .ref a_m_past, .int u5.1, .ref a_m_images, .ref a_m_kept, .ref a_m_notes, .ref a_m_noted, .int m_many, .int m_at, .int m_sort, .int m_start, .int m_value, .ref a_m_held, .ref a_m_few])), (a_m_told, .inl (cI, 33, .inl m_told)), (a_m_s, .inl (cI, 51, .inl m_s)), (a_m_past, .inl (cI, 510, .inl u5.2))] H := ⟨hP, hD⟩
            obtain ⟨hP, hD⟩ := hPD
            refine lv_aload_n hx hb dX8_pours_48 rfl (lv_at hl 0 rfl) ?_
            refine lv_iload_n hx hb dX8_pours_49 rfl (lv_at hl 1 rfl) ?_
            refine lv_iload_n hx hb dX8_pours_50 rfl (lv_at hl 3 rfl) ?_
            refine lv_iload_n hx hb dX8_pours_51 rfl (lv_at hl 2 rfl) ?_
            obtain ⟨u6, hu6, hf⟩ := bd_some hf
            refine cl_iV (As := [.int v1, .int v3, .int v2]) (rest := []) ⟨hx, hb, hml, hown, hts⟩ (c_X8_goes l D cI cZ cR a_m a_m_s a_m_told a_m_text a_m_draft a_m_past a_m_images a_m_kept a_m_notes a_m_noted a_m_held a_m_few m_trace m_typed u5.1 m_many m_at m_sort m_start m_value m_s m_told v1 v3 v2 u6 hu6) (cw_X8_pours_X8_goes_123 hts) hE hP hD hS hA [0, 2, 1] rfl rfl [a_m, a_m_s, a_m_told] rfl rfl 0 8 rfl rfl rfl hl.1 rfl (Nat.le_of_ble_eq_true rfl) dX8_pours_52 ⟨Nat.zero_le _, Nat.zero_le _⟩ (fun H locs hP hD hS => ?_)
            have hPD : PD D A [(a_m, .inr (8, [.long m_trace, .ref a_m_text, .int m_typed, .ref a_m_told, .ref a_m_draft, .ref a_m_s, .ref a_m_past, .int u5.1, .ref a_m_images, .ref a_m_kept, .ref a_m_notes, .ref a_m_noted, .int m_many, .int m_at, .int m_sort, .int m_start, .int m_value, .ref a_m_held, .ref a_m_few])), (a_m_told, .inl (cI, 33, .inl m_told)), (a_m_s, .inl (cI, 51, .inl u6.2)), (a_m_past, .inl (cI, 510, .inl u5.2))] H := ⟨hP, hD⟩
            obtain ⟨hP, hD⟩ := hPD
            have he := Option.some.inj hf
            subst he
            exact hret _ _ _ _ dX8_pours_55 rfl hP hD hS
          · have hf := if_t hf hc5
            refine lv_bipush (v := (-2)) hx hb dX8_pours_41 (by decide) ?_
            have he := Option.some.inj hf
            subst he
            exact hret _ _ _ _ dX8_pours_43 rfl hP hD hS
        · have hf := if_t hf hc4
          refine lv_iconst (v := (-1)) hx hb dX8_pours_31 (by decide) ?_
          have he := Option.some.inj hf
          subst he
          exact hret _ _ _ _ dX8_pours_32 rfl hP hD hS
abbrev rmX8_springs : Room := { frames := 2, cells := 0, slots := 0, locals := 48 }
theorem hiX8_springs_8 : ∀ w ∈ wsX80, w ∈ wsX8_springs := fun w h => (goodIn_r (big := wsX8_springs) wsX80 [12, 13, 14, 15, 16, 17, 18, 19, 20, 21, 22, 23, 24, 25, 26, 27, 28, 29, 30] rfl (by decide +kernel) w h).1
theorem cw_X8_springs_X8_goes_123 {s : State} {args : Array Value} (hts : ∀ x ∈ wsX8_springs, x.before args s = true) : CallW rmX8_springs s args RX8 RX8 123 yX8_goes cX8_goes 6 (some .int) wsX8_goes rmX8_goes 0 0 3 := cwV 3 hts gX8_springs_X8_goes rfl rfl rfl (by decide +kernel) ⟨Nat.le_of_ble_eq_true rfl, Nat.le_of_ble_eq_true rfl⟩
set_option maxRecDepth 100000 in
set_option maxHeartbeats 4000000 in
theorem c_X8_springs (l : Launch) (D : va_G) (cI cZ cR : ClassId) (a_m : Nat) (a_m_told : Nat) (a_m_s : Nat) (a_m_text : Nat) (a_m_draft : Nat) (a_m_past : Nat) (a_m_images : Nat) (a_m_kept : Nat) (a_m_notes : Nat) (a_m_noted : Nat) (a_m_held : Nat) (a_m_few : Nat) (m_trace : Int64) (m_typed : Int32) (m_known : Int32) (m_many : Int32) (m_at : Int32) (m_sort : Int32) (m_start : Int32) (m_value : Int32) (m_told : Nat → Int32) (m_s : Nat → Int32) (out : Int32 × (Nat → Int32)) (hf : f_X8_springs m_told m_s = some out) : Ci l yX8_springs wsX8_springs rmX8_springs D cI cZ cR [.ref a_m] [(a_m, .inr (8, [.long m_trace, .ref a_m_text, .int m_typed, .ref a_m_told, .ref a_m_draft, .ref a_m_s, .ref a_m_past, .int m_known, .ref a_m_images, .ref a_m_kept, .ref a_m_notes, .ref a_m_noted, .int m_many, .int m_at, .int m_sort, .int m_start, .int m_value, .ref a_m_held, .ref a_m_few])), (a_m_told, .inl (cI, 33, .inl m_told)), (a_m_s, .inl (cI, 51, .inl m_s))] out.1 [(a_m, .inr (8, [.long m_trace, .ref a_m_text, .int m_typed, .ref a_m_told, .ref a_m_draft, .ref a_m_s, .ref a_m_past, .int m_known, .ref a_m_images, .ref a_m_kept, .ref a_m_notes, .ref a_m_noted, .int m_many, .int m_at, .int m_sort, .int m_start, .int m_value, .ref a_m_held, .ref a_m_few])), (a_m_told, .inl (cI, 33, .inl m_told)), (a_m_s, .inl (cI, 51, .inl out.2))] := by
  refine ent_i (cc := cX8_springs) (maxL := 3) .int (by decide) rfl (Nat.le_of_ble_eq_true rfl) ?_
  intro p e s m below meth c A Q hx hb hml hown hts hE hA hP hD hS hret ls hl
  have hown : s.vm.findClass RX8 = some m.cls := hown
  have hl : lv_has ls 3 [(0, .ref a_m)] := hl
  have fL13 := hts (.fieldLink RX8 13 "RainShelvesModel" "told" "[I") (List.mem_of_getElem? (i := 1) rfl)
  have fL19 := hts (.fieldLink RX8 19 "RainShelvesModel" "s" "[I") (List.mem_of_getElem? (i := 2) rfl)
  unfold f_X8_springs at hf
  have J38 : ∀ (v1_38 : Int32) (m_s_38 : Nat → Int32), f_X8_springs_J38 v1_38 m_s_38 = some out → ∀ (H : Heap) (locs : List Loc) (ls : Array Slot), PD D A [(a_m, .inr (8, [.long m_trace, .ref a_m_text, .int m_typed, .ref a_m_told, .ref a_m_draft, .ref a_m_s, .ref a_m_past, .int m_known, .ref a_m_images, .ref a_m_kept, .ref a_m_notes, .ref a_m_noted, .int m_many, .int m_at, .int m_sort, .int m_start, .int m_value, .ref a_m_held, .ref a_m_few])), (a_m_told, .inl (cI, 33, .inl m_told)), (a_m_s, .inl (cI, 51, .inl m_s_38))] H → va_S A s.heap H locs → lv_has ls 3 [(0, .ref a_m), (1, .int v1_38)] → W p l e rmX8_springs s m ([.ref a_m] : List Value).toArray below meth c H locs 0 0 Q (F0 m 38 ls []) := by
    intro v1_38 m_s_38 hf H locs ls hPD hS hl
    obtain ⟨hP, hD⟩ := hPD
    unfold f_X8_springs_J38 at hf
    refine lv_aload_n hx hb dX8_springs_38 rfl (lv_at hl 0 rfl) ?_
    refine va_get (D := D) (ci := 8) (v := .ref a_m_s) (C := RX8) (T := TX8) (N := 19) hx hb hts hiX8_springs_8 hown hE.1 hP 0 rfl rfl 5 (by decide) fL19 (fun _ h9 => h9) rfl dX8_springs_39 ?_
    refine lv_bipush (v := 49) hx hb dX8_springs_42 (by decide) ?_
    refine lv_dup2_11 hx hb dX8_springs_44 rfl rfl ?_
    obtain ⟨hc1, hf⟩ := ck_some hf
    refine va_iald hx hb hE.1 hP 2 0 rfl rfl (ix_in hc1) dX8_springs_45 ?_
    refine lv_iconst (v := 1) hx hb dX8_springs_46 (by decide) ?_
    refine lv_iadd hx hb dX8_springs_47 ?_
    obtain ⟨hc2, hf⟩ := ck_some hf
    refine va_iast hx hb hE.1 hP hD hS 2 0 rfl rfl (ix_in hc2) dX8_springs_48 (fun H locs hP hD hS => ?_)
    have hPD : PD D A [(a_m, .inr (8, [.long m_trace, .ref a_m_text, .int m_typed, .ref a_m_told, .ref a_m_draft, .ref a_m_s, .ref a_m_past, .int m_known, .ref a_m_images, .ref a_m_kept, .ref a_m_notes, .ref a_m_noted, .int m_many, .int m_at, .int m_sort, .int m_start, .int m_value, .ref a_m_held, .ref a_m_few])), (a_m_told, .inl (cI, 33, .inl m_told)), (a_m_s, .inl (cI, 51, .inl (upd m_s_38 (49 : Int32).toNatClampNeg ((m_s_38 (49 : Int32).toNatClampNeg) + 1))))] H := ⟨hP, hD⟩
    obtain ⟨hP, hD⟩ := hPD
    refine lv_iload_n hx hb dX8_springs_49 rfl (lv_at hl 1 rfl) ?_
    have he := Option.some.inj hf
    subst he
    exact hret _ _ _ _ dX8_springs_50 rfl hP hD hS
  have L4 : ∀ (n4 : Nat) (v1_4 : Int32) (v2_4 : Int32) (m_s_4 : Nat → Int32), f_X8_springs_L4 m_told n4 v1_4 v2_4 m_s_4 = some out → ∀ (H : Heap) (locs : List Loc) (ls : Array Slot), PD D A [(a_m, .inr (8, [.long m_trace, .ref a_m_text, .int m_typed, .ref a_m_told, .ref a_m_draft, .ref a_m_s, .ref a_m_past, .int m_known, .ref a_m_images, .ref a_m_kept, .ref a_m_notes, .ref a_m_noted, .int m_many, .int m_at, .int m_sort, .int m_start, .int m_value, .ref a_m_held, .ref a_m_few])), (a_m_told, .inl (cI, 33, .inl m_told)), (a_m_s, .inl (cI, 51, .inl m_s_4))] H → va_S A s.heap H locs → lv_has ls 3 [(0, .ref a_m), (1, .int v1_4), (2, .int v2_4)] → W p l e rmX8_springs s m ([.ref a_m] : List Value).toArray below meth c H locs 0 0 Q (F0 m 4 ls []) := by
    intro  n4
    induction n4 with
    | zero => intro v1_4 v2_4 m_s_4 hf; cases hf
    | succ n4 ih4 =>
      intro v1_4 v2_4 m_s_4 hf H locs ls hPD hS hl
      obtain ⟨hP, hD⟩ := hPD
      have hf : f_X8_springs_B4 m_told (f_X8_springs_L4 m_told n4) v1_4 v2_4 m_s_4 = some out := hf
      unfold f_X8_springs_B4 at hf
      refine lv_iload_n hx hb dX8_springs_4 rfl (lv_at hl 2 rfl) ?_
      refine lv_aload_n hx hb dX8_springs_5 rfl (lv_at hl 0 rfl) ?_
      refine va_get (D := D) (ci := 8) (v := .ref a_m_told) (C := RX8) (T := TX8) (N := 19) hx hb hts hiX8_springs_8 hown hE.1 hP 0 rfl rfl 3 (by decide) fL13 (fun _ h9 => h9) rfl dX8_springs_6 ?_
      refine lv_iconst (v := 0) hx hb dX8_springs_9 (by decide) ?_
      obtain ⟨hc3, hf⟩ := ck_some hf
      refine va_iald hx hb hE.1 hP 1 0 rfl rfl (ix_in hc3) dX8_springs_10 ?_
      refine lv_icmp_ge (tgt := 38) hx hb dX8_springs_11 (by decide) (fun hc4 => ?_) (fun hc4 => ?_)
      · have hf := if_t hf hc4
        exact J38 v1_4 m_s_4 hf _ _ _ ⟨hP, hD⟩ hS (lv_sub hl [0, 1] rfl)
      · have hf := if_f hf hc4
        refine lv_iload_n hx hb dX8_springs_14 rfl (lv_at hl 1 rfl) ?_
        refine lv_aload_n hx hb dX8_springs_15 rfl (lv_at hl 0 rfl) ?_
        refine lv_iload_n hx hb dX8_springs_16 rfl (lv_at hl 2 rfl) ?_
        refine lv_aload_n hx hb dX8_springs_17 rfl (lv_at hl 0 rfl) ?_
        refine va_get (D := D) (ci := 8) (v := .ref a_m_told) (C := RX8) (T := TX8) (N := 19) hx hb hts hiX8_springs_8 hown hE.1 hP 0 rfl rfl 3 (by decide) fL13 (fun _ h9 => h9) rfl dX8_springs_18 ?_
        refine lv_bipush (v := 19) hx hb dX8_springs_21 (by decide) ?_
        refine lv_iload_n hx hb dX8_springs_23 rfl (lv_at hl 2 rfl) ?_
        refine lv_iadd hx hb dX8_springs_24 ?_
        obtain ⟨hc5, hf⟩ := ck_some hf
        refine va_iald hx hb hE.1 hP 1 0 rfl rfl (ix_in hc5) dX8_springs_25 ?_
        refine lv_iconst (v := (-1)) hx hb dX8_springs_26 (by decide) ?_
        obtain ⟨u1, hu1, hf⟩ := bd_some hf
        refine cl_iV (As := [.int v2_4, .int (m_told (19 + v2_4).toNatClampNeg), .int (-1)]) (rest := [.int v1_4]) ⟨hx, hb, hml, hown, hts⟩ (c_X8_goes l D cI cZ cR a_m a_m_s a_m_told a_m_text a_m_draft a_m_past a_m_images a_m_kept a_m_notes a_m_noted a_m_held a_m_few m_trace m_typed m_known m_many m_at m_sort m_start m_value m_s_4 m_told v2_4 (m_told (19 + v2_4).toNatClampNeg) (-1) u1 hu1) (cw_X8_springs_X8_goes_123 hts) hE hP hD hS hA [0, 2, 1] rfl rfl [a_m, a_m_s, a_m_told] rfl rfl 0 8 rfl rfl rfl hl.1 rfl (Nat.le_of_ble_eq_true rfl) dX8_springs_27 ⟨Nat.zero_le _, Nat.zero_le _⟩ (fun H locs hP hD hS => ?_)
        have hPD : PD D A [(a_m, .inr (8, [.long m_trace, .ref a_m_text, .int m_typed, .ref a_m_told, .ref a_m_draft, .ref a_m_s, .ref a_m_past, .int m_known, .ref a_m_images, .ref a_m_kept, .ref a_m_notes, .ref a_m_noted, .int m_many, .int m_at, .int m_sort, .int m_start, .int m_value, .ref a_m_held, .ref a_m_few])), (a_m_told, .inl (cI, 33, .inl m_told)), (a_m_s, .inl (cI, 51, .inl u1.2))] H := ⟨hP, hD⟩
        obtain ⟨hP, hD⟩ := hPD
        refine lv_iadd hx hb dX8_springs_30 ?_
        refine lv_istore_n (lv' := [(1, .int (v1_4 + u1.1)), (0, .ref a_m), (2, .int v2_4)]) hx hb dX8_springs_31 rfl hl (by decide) rfl (fun ls hl => ?_)
        refine lv_iinc (v := (v2_4 + 1)) (lv' := [(2, .int (v2_4 + 1)), (1, .int (v1_4 + u1.1)), (0, .ref a_m)]) hx hb dX8_springs_32 hl (k := 2) rfl (ii_p1 _) (by decide) rfl (fun ls hl => ?_)
        refine lv_goto (tgt := 4) hx hb dX8_springs_35 (by decide) ?_
        exact ih4 (v1_4 + u1.1) (v2_4 + 1) u1.2 hf _ _ _ ⟨hP, hD⟩ hS (lv_sub hl [2, 1, 0] rfl)
  refine lv_iconst (v := 0) hx hb dX8_springs_0 (by decide) ?_
  refine lv_istore_n (lv' := [(1, .int 0), (0, .ref a_m)]) hx hb dX8_springs_1 rfl hl (by decide) rfl (fun ls hl => ?_)
  refine lv_iconst (v := 0) hx hb dX8_springs_2 (by decide) ?_
  refine lv_istore_n (lv' := [(2, .int 0), (1, .int 0), (0, .ref a_m)]) hx hb dX8_springs_3 rfl hl (by decide) rfl (fun ls hl => ?_)
  exact L4  FU 0 0 m_s hf _ _ _ ⟨hP, hD⟩ hS (lv_sub hl [2, 1, 0] rfl)
abbrev rmX8_spring : Room := { frames := 3, cells := 0, slots := 0, locals := 70 }
theorem hiX8_spring_8 : ∀ w ∈ wsX80, w ∈ wsX8_spring := fun w h => (goodIn_r (big := wsX8_spring) wsX80 [22, 23, 24, 25, 26, 27, 28, 29, 30, 31, 32, 33, 34, 35, 36, 37, 38, 39, 40] rfl (by decide +kernel) w h).1
theorem cw_X8_spring_X8_keeps_120 {s : State} {args : Array Value} (hts : ∀ x ∈ wsX8_spring, x.before args s = true) : CallW rmX8_spring s args RX8 RX8 120 yX8_keeps cX8_keeps 2 none wsX8_keeps rmX8_keeps 0 0 0 := cwV 0 hts gX8_spring_X8_keeps rfl rfl rfl (by decide +kernel) ⟨Nat.le_of_ble_eq_true rfl, Nat.le_of_ble_eq_true rfl⟩
theorem cw_X8_spring_X8_springs_127 {s : State} {args : Array Value} (hts : ∀ x ∈ wsX8_spring, x.before args s = true) : CallW rmX8_spring s args RX8 RX8 127 yX8_springs cX8_springs 3 (some .int) wsX8_springs rmX8_springs 0 0 0 := cwV 0 hts gX8_spring_X8_springs rfl rfl rfl (by decide +kernel) ⟨Nat.le_of_ble_eq_true rfl, Nat.le_of_ble_eq_true rfl⟩
set_option maxRecDepth 100000 in
set_option maxHeartbeats 4000000 in
theorem c_X8_spring (l : Launch) (D : va_G) (cI cZ cR : ClassId) (a_m : Nat) (a_m_s : Nat) (a_m_past : Nat) (a_m_told : Nat) (a_m_text : Nat) (a_m_draft : Nat) (a_m_images : Nat) (a_m_kept : Nat) (a_m_notes : Nat) (a_m_noted : Nat) (a_m_held : Nat) (a_m_few : Nat) (m_trace : Int64) (m_typed : Int32) (m_known : Int32) (m_many : Int32) (m_at : Int32) (m_sort : Int32) (m_start : Int32) (m_value : Int32) (m_s : Nat → Int32) (m_past : Nat → Int32) (m_told : Nat → Int32) (out : Int32 × Int32 × (Nat → Int32) × (Nat → Int32)) (hf : f_X8_spring m_known m_s m_past m_told = some out) : Ci l yX8_spring wsX8_spring rmX8_spring D cI cZ cR [.ref a_m] [(a_m, .inr (8, [.long m_trace, .ref a_m_text, .int m_typed, .ref a_m_told, .ref a_m_draft, .ref a_m_s, .ref a_m_past, .int m_known, .ref a_m_images, .ref a_m_kept, .ref a_m_notes, .ref a_m_noted, .int m_many, .int m_at, .int m_sort, .int m_start, .int m_value, .ref a_m_held, .ref a_m_few])), (a_m_s, .inl (cI, 51, .inl m_s)), (a_m_past, .inl (cI, 510, .inl m_past)), (a_m_told, .inl (cI, 33, .inl m_told))] out.1 [(a_m, .inr (8, [.long m_trace, .ref a_m_text, .int m_typed, .ref a_m_told, .ref a_m_draft, .ref a_m_s, .ref a_m_past, .int out.2.1, .ref a_m_images, .ref a_m_kept, .ref a_m_notes, .ref a_m_noted, .int m_many, .int m_at, .int m_sort, .int m_start, .int m_value, .ref a_m_held, .ref a_m_few])), (a_m_s, .inl (cI, 51, .inl out.2.2.1)), (a_m_past, .inl (cI, 510, .inl out.2.2.2)), (a_m_told, .inl (cI, 33, .inl m_told))] := by
  refine ent_i (cc := cX8_spring) (maxL := 1) .int (by decide) rfl (Nat.le_of_ble_eq_true rfl) ?_
  intro p e s m below meth c A Q hx hb hml hown hts hE hA hP hD hS hret ls hl
  have hown : s.vm.findClass RX8 = some m.cls := hown
  have hl : lv_has ls 1 [(0, .ref a_m)] := hl
  have fL19 := hts (.fieldLink RX8 19 "RainShelvesModel" "s" "[I") (List.mem_of_getElem? (i := 1) rfl)
  unfold f_X8_spring at hf
  refine lv_aload_n hx hb dX8_spring_0 rfl (lv_at hl 0 rfl) ?_
  refine va_get (D := D) (ci := 8) (v := .ref a_m_s) (C := RX8) (T := TX8) (N := 19) hx hb hts hiX8_spring_8 hown hE.1 hP 0 rfl rfl 5 (by decide) fL19 (fun _ h9 => h9) rfl dX8_spring_1 ?_
  refine lv_bipush (v := 49) hx hb dX8_spring_4 (by decide) ?_
  obtain ⟨hc1, hf⟩ := ck_some hf
  refine va_iald hx hb hE.1 hP 1 0 rfl rfl (ix_in hc1) dX8_spring_6 ?_
  refine lv_sipush (v := 999) hx hb dX8_spring_7 (by decide) ?_
  refine lv_icmp_ne (tgt := 16) hx hb dX8_spring_10 (by decide) (fun hc2 => ?_) (fun hc2 => ?_)
  · have hf := if_f hf hc2
    refine lv_aload_n hx hb dX8_spring_16 rfl (lv_at hl 0 rfl) ?_
    obtain ⟨u1, hu1, hf⟩ := bd_some hf
    refine cl_vV (As := []) (rest := []) ⟨hx, hb, hml, hown, hts⟩ (c_X8_keeps l D cI cZ cR a_m a_m_past a_m_s a_m_text a_m_told a_m_draft a_m_images a_m_kept a_m_notes a_m_noted a_m_held a_m_few m_trace m_typed m_known m_many m_at m_sort m_start m_value m_past m_s  u1 hu1) (cw_X8_spring_X8_keeps_120 hts) hE hP hD hS hA [0, 2, 1] rfl rfl [a_m, a_m_past, a_m_s] rfl rfl 0 8 rfl rfl rfl hl.1 rfl (Nat.le_of_ble_eq_true rfl) dX8_spring_17 ⟨Nat.zero_le _, Nat.zero_le _⟩ (fun H locs hP hD hS => ?_)
    have hPD : PD D A [(a_m, .inr (8, [.long m_trace, .ref a_m_text, .int m_typed, .ref a_m_told, .ref a_m_draft, .ref a_m_s, .ref a_m_past, .int u1.1, .ref a_m_images, .ref a_m_kept, .ref a_m_notes, .ref a_m_noted, .int m_many, .int m_at, .int m_sort, .int m_start, .int m_value, .ref a_m_held, .ref a_m_few])), (a_m_s, .inl (cI, 51, .inl m_s)), (a_m_past, .inl (cI, 510, .inl u1.2)), (a_m_told, .inl (cI, 33, .inl m_told))] H := ⟨hP, hD⟩
    obtain ⟨hP, hD⟩ := hPD
    refine lv_aload_n hx hb dX8_spring_20 rfl (lv_at hl 0 rfl) ?_
    obtain ⟨u2, hu2, hf⟩ := bd_some hf
    refine cl_iV (As := []) (rest := []) ⟨hx, hb, hml, hown, hts⟩ (c_X8_springs l D cI cZ cR a_m a_m_told a_m_s a_m_text a_m_draft a_m_past a_m_images a_m_kept a_m_notes a_m_noted a_m_held a_m_few m_trace m_typed u1.1 m_many m_at m_sort m_start m_value m_told m_s  u2 hu2) (cw_X8_spring_X8_springs_127 hts) hE hP hD hS hA [0, 3, 1] rfl rfl [a_m, a_m_told, a_m_s] rfl rfl 0 8 rfl rfl rfl hl.1 rfl (Nat.le_of_ble_eq_true rfl) dX8_spring_21 ⟨Nat.zero_le _, Nat.zero_le _⟩ (fun H locs hP hD hS => ?_)
    have hPD : PD D A [(a_m, .inr (8, [.long m_trace, .ref a_m_text, .int m_typed, .ref a_m_told, .ref a_m_draft, .ref a_m_s, .ref a_m_past, .int u1.1, .ref a_m_images, .ref a_m_kept, .ref a_m_notes, .ref a_m_noted, .int m_many, .int m_at, .int m_sort, .int m_start, .int m_value, .ref a_m_held, .ref a_m_few])), (a_m_s, .inl (cI, 51, .inl u2.2)), (a_m_past, .inl (cI, 510, .inl u1.2)), (a_m_told, .inl (cI, 33, .inl m_told))] H := ⟨hP, hD⟩
    obtain ⟨hP, hD⟩ := hPD
    have he := Option.some.inj hf
    subst he
    exact hret _ _ _ _ dX8_spring_24 rfl hP hD hS
  · have hf := if_t hf hc2
    refine lv_bipush (v := (-2)) hx hb dX8_spring_13 (by decide) ?_
    have he := Option.some.inj hf
    subst he
    exact hret _ _ _ _ dX8_spring_15 rfl hP hD hS
abbrev rmX8_splits : Room := { frames := 2, cells := 0, slots := 0, locals := 48 }
theorem cw_X8_splits_X8_isPan_104 {s : State} {args : Array Value} (hts : ∀ x ∈ wsX8_splits, x.before args s = true) : CallW rmX8_splits s args RX8 RX8 104 yX8_isPan cX8_isPan 2 (some .boolean) wsX8_isPan rmX8_isPan 0 0 1 := cwV 1 hts gX8_splits_X8_isPan rfl rfl rfl (by decide +kernel) ⟨Nat.le_of_ble_eq_true rfl, Nat.le_of_ble_eq_true rfl⟩
theorem cw_X8_splits_X8_full_98 {s : State} {args : Array Value} (hts : ∀ x ∈ wsX8_splits, x.before args s = true) : CallW rmX8_splits s args RX8 RX8 98 yX8_full cX8_full 4 (some .int) wsX8_full rmX8_full 0 0 1 := cwV 1 hts gX8_splits_X8_full rfl rfl rfl (by decide +kernel) ⟨Nat.le_of_ble_eq_true rfl, Nat.le_of_ble_eq_true rfl⟩
theorem cw_X8_splits_X8_keeps_120 {s : State} {args : Array Value} (hts : ∀ x ∈ wsX8_splits, x.before args s = true) : CallW rmX8_splits s args RX8 RX8 120 yX8_keeps cX8_keeps 2 none wsX8_keeps rmX8_keeps 0 0 0 := cwV 0 hts gX8_splits_X8_keeps rfl rfl rfl (by decide +kernel) ⟨Nat.le_of_ble_eq_true rfl, Nat.le_of_ble_eq_true rfl⟩
theorem cw_X8_splits_X8_goes_123 {s : State} {args : Array Value} (hts : ∀ x ∈ wsX8_splits, x.before args s = true) : CallW rmX8_splits s args RX8 RX8 123 yX8_goes cX8_goes 6 (some .int) wsX8_goes rmX8_goes 0 0 3 := cwV 3 hts gX8_splits_X8_goes rfl rfl rfl (by decide +kernel) ⟨Nat.le_of_ble_eq_true rfl, Nat.le_of_ble_eq_true rfl⟩
set_option maxRecDepth 100000 in
set_option maxHeartbeats 4000000 in
theorem c_X8_splits (l : Launch) (D : va_G) (cI cZ cR : ClassId) (a_m : Nat) (a_m_told : Nat) (a_m_s : Nat) (a_m_past : Nat) (a_m_text : Nat) (a_m_draft : Nat) (a_m_images : Nat) (a_m_kept : Nat) (a_m_notes : Nat) (a_m_noted : Nat) (a_m_held : Nat) (a_m_few : Nat) (m_trace : Int64) (m_typed : Int32) (m_known : Int32) (m_many : Int32) (m_at : Int32) (m_sort : Int32) (m_start : Int32) (m_value : Int32) (m_told : Nat → Int32) (m_s : Nat → Int32) (m_past : Nat → Int32) (v1 : Int32) (out : Int32 × Int32 × (Nat → Int32) × (Nat → Int32)) (hf : f_X8_splits m_known m_told m_s m_past v1 = some out) : Ci l yX8_splits wsX8_splits rmX8_splits D cI cZ cR [.ref a_m, .int v1] [(a_m, .inr (8, [.long m_trace, .ref a_m_text, .int m_typed, .ref a_m_told, .ref a_m_draft, .ref a_m_s, .ref a_m_past, .int m_known, .ref a_m_images, .ref a_m_kept, .ref a_m_notes, .ref a_m_noted, .int m_many, .int m_at, .int m_sort, .int m_start, .int m_value, .ref a_m_held, .ref a_m_few])), (a_m_told, .inl (cI, 33, .inl m_told)), (a_m_s, .inl (cI, 51, .inl m_s)), (a_m_past, .inl (cI, 510, .inl m_past))] out.1 [(a_m, .inr (8, [.long m_trace, .ref a_m_text, .int m_typed, .ref a_m_told, .ref a_m_draft, .ref a_m_s, .ref a_m_past, .int out.2.1, .ref a_m_images, .ref a_m_kept, .ref a_m_notes, .ref a_m_noted, .int m_many, .int m_at, .int m_sort, .int m_start, .int m_value, .ref a_m_held, .ref a_m_few])), (a_m_told, .inl (cI, 33, .inl m_told)), (a_m_s, .inl (cI, 51, .inl out.2.2.1)), (a_m_past, .inl (cI, 510, .inl out.2.2.2))] := by
  refine ent_i (cc := cX8_splits) (maxL := 3) .int (by decide) rfl (Nat.le_of_ble_eq_true rfl) ?_
  intro p e s m below meth c A Q hx hb hml hown hts hE hA hP hD hS hret ls hl
  have hown : s.vm.findClass RX8 = some m.cls := hown
  have hl : lv_has ls 3 [(0, .ref a_m), (1, .int v1)] := hl
  unfold f_X8_splits at hf
  refine lv_aload_n hx hb dX8_splits_0 rfl (lv_at hl 0 rfl) ?_
  refine lv_iload_n hx hb dX8_splits_1 rfl (lv_at hl 1 rfl) ?_
  obtain ⟨u1, hu1, hf⟩ := bd_some hf
  refine cl_iV (As := [.int v1]) (rest := []) ⟨hx, hb, hml, hown, hts⟩ (c_X8_isPan l D cI cZ cR a_m a_m_told a_m_text a_m_draft a_m_s a_m_past a_m_images a_m_kept a_m_notes a_m_noted a_m_held a_m_few m_trace m_typed m_known m_many m_at m_sort m_start m_value m_told v1 u1 hu1) (cw_X8_splits_X8_isPan_104 hts) hE hP hD hS hA [0, 1] rfl rfl [a_m, a_m_told] rfl rfl 0 8 rfl rfl rfl hl.1 rfl (Nat.le_of_ble_eq_true rfl) dX8_splits_2 ⟨Nat.zero_le _, Nat.zero_le _⟩ (fun H locs hP hD hS => ?_)
  have hPD : PD D A [(a_m, .inr (8, [.long m_trace, .ref a_m_text, .int m_typed, .ref a_m_told, .ref a_m_draft, .ref a_m_s, .ref a_m_past, .int m_known, .ref a_m_images, .ref a_m_kept, .ref a_m_notes, .ref a_m_noted, .int m_many, .int m_at, .int m_sort, .int m_start, .int m_value, .ref a_m_held, .ref a_m_few])), (a_m_told, .inl (cI, 33, .inl m_told)), (a_m_s, .inl (cI, 51, .inl m_s)), (a_m_past, .inl (cI, 510, .inl m_past))] H := ⟨hP, hD⟩
  obtain ⟨hP, hD⟩ := hPD
  refine lv_if_ne (tgt := 10) hx hb dX8_splits_5 (by decide) (fun hc1 => ?_) (fun hc1 => ?_)
  · have hf := if_f hf hc1
    refine lv_aload_n hx hb dX8_splits_10 rfl (lv_at hl 0 rfl) ?_
    refine lv_iload_n hx hb dX8_splits_11 rfl (lv_at hl 1 rfl) ?_
    obtain ⟨u2, hu2, hf⟩ := bd_some hf
    refine cl_iV (As := [.int v1]) (rest := []) ⟨hx, hb, hml, hown, hts⟩ (c_X8_full l D cI cZ cR a_m a_m_s a_m_text a_m_told a_m_draft a_m_past a_m_images a_m_kept a_m_notes a_m_noted a_m_held a_m_few m_trace m_typed m_known m_many m_at m_sort m_start m_value m_s v1 u2 hu2) (cw_X8_splits_X8_full_98 hts) hE hP hD hS hA [0, 2] rfl rfl [a_m, a_m_s] rfl rfl 0 8 rfl rfl rfl hl.1 rfl (Nat.le_of_ble_eq_true rfl) dX8_splits_12 ⟨Nat.zero_le _, Nat.zero_le _⟩ (fun H locs hP hD hS => ?_)
    have hPD : PD D A [(a_m, .inr (8, [.long m_trace, .ref a_m_text, .int m_typed, .ref a_m_told, .ref a_m_draft, .ref a_m_s, .ref a_m_past, .int m_known, .ref a_m_images, .ref a_m_kept, .ref a_m_notes, .ref a_m_noted, .int m_many, .int m_at, .int m_sort, .int m_start, .int m_value, .ref a_m_held, .ref a_m_few])), (a_m_told, .inl (cI, 33, .inl m_told)), (a_m_s, .inl (cI, 51, .inl m_s)), (a_m_past, .inl (cI, 510, .inl m_past))] H := ⟨hP, hD⟩
    obtain ⟨hP, hD⟩ := hPD
    refine lv_istore_n (lv' := [(2, .int u2), (0, .ref a_m), (1, .int v1)]) hx hb dX8_splits_15 rfl hl (by decide) rfl (fun ls hl => ?_)
    refine lv_iload_n hx hb dX8_splits_16 rfl (lv_at hl 0 rfl) ?_
    refine lv_if_ne (tgt := 23) hx hb dX8_splits_17 (by decide) (fun hc2 => ?_) (fun hc2 => ?_)
    · have hf := if_f hf hc2
      refine lv_aload_n hx hb dX8_splits_23 rfl (lv_at hl 1 rfl) ?_
      obtain ⟨u3, hu3, hf⟩ := bd_some hf
      refine cl_vV (As := []) (rest := []) ⟨hx, hb, hml, hown, hts⟩ (c_X8_keeps l D cI cZ cR a_m a_m_past a_m_s a_m_text a_m_told a_m_draft a_m_images a_m_kept a_m_notes a_m_noted a_m_held a_m_few m_trace m_typed m_known m_many m_at m_sort m_start m_value m_past m_s  u3 hu3) (cw_X8_splits_X8_keeps_120 hts) hE hP hD hS hA [0, 3, 2] rfl rfl [a_m, a_m_past, a_m_s] rfl rfl 0 8 rfl rfl rfl hl.1 rfl (Nat.le_of_ble_eq_true rfl) dX8_splits_24 ⟨Nat.zero_le _, Nat.zero_le _⟩ (fun H locs hP hD hS => ?_)
      have hPD : PD D A [(a_m, .inr (8, [.long m_trace, .ref a_m_text, .int m_typed, .ref a_m_told, .ref a_m_draft, .ref a_m_s, .ref a_m_past, .int u3.1, .ref a_m_images, .ref a_m_kept, .ref a_m_notes, .ref a_m_noted, .int m_many, .int m_at, .int m_sort, .int m_start, .int m_value, .ref a_m_held, .ref a_m_few])), (a_m_told, .inl (cI, 33, .inl m_told)), (a_m_s, .inl (cI, 51, .inl m_s)), (a_m_past, .inl (cI, 510, .inl u3.2))] H := ⟨hP, hD⟩
      obtain ⟨hP, hD⟩ := hPD
      refine lv_aload_n hx hb dX8_splits_27 rfl (lv_at hl 1 rfl) ?_
      refine lv_iload_n hx hb dX8_splits_28 rfl (lv_at hl 2 rfl) ?_
      refine lv_iload_n hx hb dX8_splits_29 rfl (lv_at hl 0 rfl) ?_
      refine lv_iconst (v := (-1)) hx hb dX8_splits_30 (by decide) ?_
      obtain ⟨u4, hu4, hf⟩ := bd_some hf
      refine cl_iV (As := [.int v1, .int u2, .int (-1)]) (rest := []) ⟨hx, hb, hml, hown, hts⟩ (c_X8_goes l D cI cZ cR a_m a_m_s a_m_told a_m_text a_m_draft a_m_past a_m_images a_m_kept a_m_notes a_m_noted a_m_held a_m_few m_trace m_typed u3.1 m_many m_at m_sort m_start m_value m_s m_told v1 u2 (-1) u4 hu4) (cw_X8_splits_X8_goes_123 hts) hE hP hD hS hA [0, 2, 1] rfl rfl [a_m, a_m_s, a_m_told] rfl rfl 0 8 rfl rfl rfl hl.1 rfl (Nat.le_of_ble_eq_true rfl) dX8_splits_31 ⟨Nat.zero_le _, Nat.zero_le _⟩ (fun H locs hP hD hS => ?_)
      have hPD : PD D A [(a_m, .inr (8, [.long m_trace, .ref a_m_text, .int m_typed, .ref a_m_told, .ref a_m_draft, .ref a_m_s, .ref a_m_past, .int u3.1, .ref a_m_images, .ref a_m_kept, .ref a_m_notes, .ref a_m_noted, .int m_many, .int m_at, .int m_sort, .int m_start, .int m_value, .ref a_m_held, .ref a_m_few])), (a_m_told, .inl (cI, 33, .inl m_told)), (a_m_s, .inl (cI, 51, .inl u4.2)), (a_m_past, .inl (cI, 510, .inl u3.2))] H := ⟨hP, hD⟩
      obtain ⟨hP, hD⟩ := hPD
      have he := Option.some.inj hf
      subst he
      exact hret _ _ _ _ dX8_splits_34 rfl hP hD hS
    · have hf := if_t hf hc2
      refine lv_bipush (v := (-2)) hx hb dX8_splits_20 (by decide) ?_
      have he := Option.some.inj hf
      subst he
      exact hret _ _ _ _ dX8_splits_22 rfl hP hD hS
  · have hf := if_t hf hc1
    refine lv_iconst (v := (-1)) hx hb dX8_splits_8 (by decide) ?_
    have he := Option.some.inj hf
    subst he
    exact hret _ _ _ _ dX8_splits_9 rfl hP hD hS
abbrev rmX8_undo : Room := { frames := 0, cells := 0, slots := 0, locals := 0 }
theorem hiX8_undo_8 : ∀ w ∈ wsX80, w ∈ wsX8_undo := fun w h => (goodIn_r (big := wsX8_undo) wsX80 [4, 5, 6, 7, 8, 9, 10, 11, 12, 13, 14, 15, 16, 17, 18, 19, 20, 21, 22] rfl (by decide +kernel) w h).1
set_option maxRecDepth 100000 in
set_option maxHeartbeats 4000000 in
theorem c_X8_undo (l : Launch) (D : va_G) (cI cZ cR : ClassId) (a_m : Nat) (a_m_past : Nat) (a_m_s : Nat) (a_m_text : Nat) (a_m_told : Nat) (a_m_draft : Nat) (a_m_images : Nat) (a_m_kept : Nat) (a_m_notes : Nat) (a_m_noted : Nat) (a_m_held : Nat) (a_m_few : Nat) (m_trace : Int64) (m_typed : Int32) (m_known : Int32) (m_many : Int32) (m_at : Int32) (m_sort : Int32) (m_start : Int32) (m_value : Int32) (m_past : Nat → Int32) (m_s : Nat → Int32) (out : Int32 × Int32 × (Nat → Int32)) (hf : f_X8_undo m_known m_past m_s = some out) : Ci l yX8_undo wsX8_undo rmX8_undo D cI cZ cR [.ref a_m] [(a_m, .inr (8, [.long m_trace, .ref a_m_text, .int m_typed, .ref a_m_told, .ref a_m_draft, .ref a_m_s, .ref a_m_past, .int m_known, .ref a_m_images, .ref a_m_kept, .ref a_m_notes, .ref a_m_noted, .int m_many, .int m_at, .int m_sort, .int m_start, .int m_value, .ref a_m_held, .ref a_m_few])), (a_m_past, .inl (cI, 510, .inl m_past)), (a_m_s, .inl (cI, 51, .inl m_s))] out.1 [(a_m, .inr (8, [.long m_trace, .ref a_m_text, .int m_typed, .ref a_m_told, .ref a_m_draft, .ref a_m_s, .ref a_m_past, .int out.2.1, .ref a_m_images, .ref a_m_kept, .ref a_m_notes, .ref a_m_noted, .int m_many, .int m_at, .int m_sort, .int m_start, .int m_value, .ref a_m_held, .ref a_m_few])), (a_m_past, .inl (cI, 510, .inl m_past)), (a_m_s, .inl (cI, 51, .inl out.2.2))] := by
  refine ent_i (cc := cX8_undo) (maxL := 2) .int (by decide) rfl (Nat.le_of_ble_eq_true rfl) ?_
  intro p e s m below meth c A Q hx hb hml hown hts hE hA hP hD hS hret ls hl
  have hown : s.vm.findClass RX8 = some m.cls := hown
  have hl : lv_has ls 2 [(0, .ref a_m)] := hl
  have fL19 := hts (.fieldLink RX8 19 "RainShelvesModel" "s" "[I") (List.mem_of_getElem? (i := 2) rfl)
  have fL22 := hts (.fieldLink RX8 22 "RainShelvesModel" "past" "[I") (List.mem_of_getElem? (i := 3) rfl)
  have fL92 := hts (.fieldLink RX8 92 "RainShelvesModel" "known" "I") (List.mem_of_getElem? (i := 1) rfl)
  unfold f_X8_undo at hf
  have L22 : ∀ (m_known_22 : Int32) (n22 : Nat) (v1_22 : Int32) (m_s_22 : Nat → Int32), f_X8_undo_L22 m_past m_known_22 n22 v1_22 m_s_22 = some out → ∀ (H : Heap) (locs : List Loc) (ls : Array Slot), PD D A [(a_m, .inr (8, [.long m_trace, .ref a_m_text, .int m_typed, .ref a_m_told, .ref a_m_draft, .ref a_m_s, .ref a_m_past, .int m_known_22, .ref a_m_images, .ref a_m_kept, .ref a_m_notes, .ref a_m_noted, .int m_many, .int m_at, .int m_sort, .int m_start, .int m_value, .ref a_m_held, .ref a_m_few])), (a_m_past, .inl (cI, 510, .inl m_past)), (a_m_s, .inl (cI, 51, .inl m_s_22))] H → va_S A s.heap H locs → lv_has ls 2 [(0, .ref a_m), (1, .int v1_22)] → W p l e rmX8_undo s m ([.ref a_m] : List Value).toArray below meth c H locs 0 0 Q (F0 m 22 ls []) := by
    intro m_known_22 n22
    induction n22 with
    | zero => intro v1_22 m_s_22 hf; cases hf
    | succ n22 ih22 =>
      intro v1_22 m_s_22 hf H locs ls hPD hS hl
      obtain ⟨hP, hD⟩ := hPD
      have hf : f_X8_undo_B22 m_past m_known_22 (f_X8_undo_L22 m_past m_known_22 n22) v1_22 m_s_22 = some out := hf
      unfold f_X8_undo_B22 at hf
      refine lv_iload_n hx hb dX8_undo_22 rfl (lv_at hl 1 rfl) ?_
      refine lv_bipush (v := 51) hx hb dX8_undo_23 (by decide) ?_
      refine lv_icmp_ge (tgt := 54) hx hb dX8_undo_25 (by decide) (fun hc1 => ?_) (fun hc1 => ?_)
      · have hf := if_t hf hc1
        refine lv_aload_n hx hb dX8_undo_54 rfl (lv_at hl 0 rfl) ?_
        refine va_get (D := D) (ci := 8) (v := .int m_known_22) (C := RX8) (T := TX8) (N := 19) hx hb hts hiX8_undo_8 hown hE.1 hP 0 rfl rfl 7 (by decide) fL92 (fun _ h9 => h9) rfl dX8_undo_55 ?_
        have he := Option.some.inj hf
        subst he
        exact hret _ _ _ _ dX8_undo_58 rfl hP hD hS
      · have hf := if_f hf hc1
        refine lv_aload_n hx hb dX8_undo_28 rfl (lv_at hl 0 rfl) ?_
        refine va_get (D := D) (ci := 8) (v := .ref a_m_s) (C := RX8) (T := TX8) (N := 19) hx hb hts hiX8_undo_8 hown hE.1 hP 0 rfl rfl 5 (by decide) fL19 (fun _ h9 => h9) rfl dX8_undo_29 ?_
        refine lv_iload_n hx hb dX8_undo_32 rfl (lv_at hl 1 rfl) ?_
        refine lv_aload_n hx hb dX8_undo_33 rfl (lv_at hl 0 rfl) ?_
        refine va_get (D := D) (ci := 8) (v := .ref a_m_past) (C := RX8) (T := TX8) (N := 19) hx hb hts hiX8_undo_8 hown hE.1 hP 0 rfl rfl 6 (by decide) fL22 (fun _ h9 => h9) rfl dX8_undo_34 ?_
        refine lv_bipush (v := 51) hx hb dX8_undo_37 (by decide) ?_
        refine lv_aload_n hx hb dX8_undo_39 rfl (lv_at hl 0 rfl) ?_
        refine va_get (D := D) (ci := 8) (v := .int m_known_22) (C := RX8) (T := TX8) (N := 19) hx hb hts hiX8_undo_8 hown hE.1 hP 0 rfl rfl 7 (by decide) fL92 (fun _ h9 => h9) rfl dX8_undo_40 ?_
        refine lv_imul hx hb dX8_undo_43 ?_
        refine lv_iload_n hx hb dX8_undo_44 rfl (lv_at hl 1 rfl) ?_
        refine lv_iadd hx hb dX8_undo_45 ?_
        obtain ⟨hc2, hf⟩ := ck_some hf
        refine va_iald hx hb hE.1 hP 1 0 rfl rfl (ix_in hc2) dX8_undo_46 ?_
        obtain ⟨hc3, hf⟩ := ck_some hf
        refine va_iast hx hb hE.1 hP hD hS 2 0 rfl rfl (ix_in hc3) dX8_undo_47 (fun H locs hP hD hS => ?_)
        have hPD : PD D A [(a_m, .inr (8, [.long m_trace, .ref a_m_text, .int m_typed, .ref a_m_told, .ref a_m_draft, .ref a_m_s, .ref a_m_past, .int m_known_22, .ref a_m_images, .ref a_m_kept, .ref a_m_notes, .ref a_m_noted, .int m_many, .int m_at, .int m_sort, .int m_start, .int m_value, .ref a_m_held, .ref a_m_few])), (a_m_past, .inl (cI, 510, .inl m_past)), (a_m_s, .inl (cI, 51, .inl (upd m_s_22 v1_22.toNatClampNeg (m_past ((51 * m_known_22) + v1_22).toNatClampNeg))))] H := ⟨hP, hD⟩
        obtain ⟨hP, hD⟩ := hPD
        refine lv_iinc (v := (v1_22 + 1)) (lv' := [(1, .int (v1_22 + 1)), (0, .ref a_m)]) hx hb dX8_undo_48 hl (k := 1) rfl (ii_p1 _) (by decide) rfl (fun ls hl => ?_)
        refine lv_goto (tgt := 22) hx hb dX8_undo_51 (by decide) ?_
        exact ih22 (v1_22 + 1) (upd m_s_22 v1_22.toNatClampNeg (m_past ((51 * m_known_22) + v1_22).toNatClampNeg)) hf _ _ _ ⟨hP, hD⟩ hS (lv_sub hl [1, 0] rfl)
  refine lv_aload_n hx hb dX8_undo_0 rfl (lv_at hl 0 rfl) ?_
  refine va_get (D := D) (ci := 8) (v := .int m_known) (C := RX8) (T := TX8) (N := 19) hx hb hts hiX8_undo_8 hown hE.1 hP 0 rfl rfl 7 (by decide) fL92 (fun _ h9 => h9) rfl dX8_undo_1 ?_
  refine lv_if_ne (tgt := 10) hx hb dX8_undo_4 (by decide) (fun hc4 => ?_) (fun hc4 => ?_)
  · have hf := if_f hf hc4
    refine lv_aload_n hx hb dX8_undo_10 rfl (lv_at hl 0 rfl) ?_
    refine lv_dup hx hb dX8_undo_11 rfl ?_
    refine va_get (D := D) (ci := 8) (v := .int m_known) (C := RX8) (T := TX8) (N := 19) hx hb hts hiX8_undo_8 hown hE.1 hP 0 rfl rfl 7 (by decide) fL92 (fun _ h9 => h9) rfl dX8_undo_12 ?_
    refine lv_iconst (v := 1) hx hb dX8_undo_15 (by decide) ?_
    refine lv_isub hx hb dX8_undo_16 ?_
    refine va_put (D := D) (ci := 8) (v := .int (m_known - 1)) (ty := .int) (C := RX8) (T := TX8) (N := 19) hx hb hts hiX8_undo_8 tyX8 tyX8_ok nmX8 hown hE.1 hP hD hS 0 rfl rfl 7 (by decide) fL92 (fun _ h9 => h9) rfl (tyX8_ok 7 (by decide)) rfl rfl (Nat.le_of_ble_eq_true rfl) dX8_undo_17 (fun H locs hP hD hS => ?_)
    have hPD : PD D A [(a_m, .inr (8, [.long m_trace, .ref a_m_text, .int m_typed, .ref a_m_told, .ref a_m_draft, .ref a_m_s, .ref a_m_past, .int (m_known - 1), .ref a_m_images, .ref a_m_kept, .ref a_m_notes, .ref a_m_noted, .int m_many, .int m_at, .int m_sort, .int m_start, .int m_value, .ref a_m_held, .ref a_m_few])), (a_m_past, .inl (cI, 510, .inl m_past)), (a_m_s, .inl (cI, 51, .inl m_s))] H := ⟨hP, hD⟩
    obtain ⟨hP, hD⟩ := hPD
    refine lv_iconst (v := 0) hx hb dX8_undo_20 (by decide) ?_
    refine lv_istore_n (lv' := [(1, .int 0), (0, .ref a_m)]) hx hb dX8_undo_21 rfl hl (by decide) rfl (fun ls hl => ?_)
    exact L22 (m_known - 1) FU 0 m_s hf _ _ _ ⟨hP, hD⟩ hS (lv_sub hl [1, 0] rfl)
  · have hf := if_t hf hc4
    refine lv_bipush (v := (-2)) hx hb dX8_undo_7 (by decide) ?_
    have he := Option.some.inj hf
    subst he
    exact hret _ _ _ _ dX8_undo_9 rfl hP hD hS
abbrev rmX8_remembers : Room := { frames := 0, cells := 0, slots := 0, locals := 0 }
theorem hiX8_remembers_8 : ∀ w ∈ wsX80, w ∈ wsX8_remembers := fun w h => (goodIn_r (big := wsX8_remembers) wsX80 [3, 4, 5, 6, 7, 8, 9, 10, 11, 12, 13, 14, 15, 16, 17, 18, 19, 20, 21] rfl (by decide +kernel) w h).1
set_option maxRecDepth 100000 in
set_option maxHeartbeats 4000000 in
theorem c_X8_remembers (l : Launch) (D : va_G) (cI cZ cR : ClassId) (a_m : Nat) (a_m_s : Nat) (a_m_held : Nat) (a_m_text : Nat) (a_m_told : Nat) (a_m_draft : Nat) (a_m_past : Nat) (a_m_images : Nat) (a_m_kept : Nat) (a_m_notes : Nat) (a_m_noted : Nat) (a_m_few : Nat) (m_trace : Int64) (m_typed : Int32) (m_known : Int32) (m_many : Int32) (m_at : Int32) (m_sort : Int32) (m_start : Int32) (m_value : Int32) (m_s : Nat → Int32) (m_held : Nat → Int32) (out : (Nat → Int32)) (hf : f_X8_remembers m_s m_held = some out) : Cv l yX8_remembers wsX8_remembers rmX8_remembers D cI cZ cR [.ref a_m] [(a_m, .inr (8, [.long m_trace, .ref a_m_text, .int m_typed, .ref a_m_told, .ref a_m_draft, .ref a_m_s, .ref a_m_past, .int m_known, .ref a_m_images, .ref a_m_kept, .ref a_m_notes, .ref a_m_noted, .int m_many, .int m_at, .int m_sort, .int m_start, .int m_value, .ref a_m_held, .ref a_m_few])), (a_m_s, .inl (cI, 51, .inl m_s)), (a_m_held, .inl (cI, 51, .inl m_held))] [(a_m, .inr (8, [.long m_trace, .ref a_m_text, .int m_typed, .ref a_m_told, .ref a_m_draft, .ref a_m_s, .ref a_m_past, .int m_known, .ref a_m_images, .ref a_m_kept, .ref a_m_notes, .ref a_m_noted, .int m_many, .int m_at, .int m_sort, .int m_start, .int m_value, .ref a_m_held, .ref a_m_few])), (a_m_s, .inl (cI, 51, .inl m_s)), (a_m_held, .inl (cI, 51, .inl out))] := by
  refine ent_v (cc := cX8_remembers) (maxL := 2) (by decide) rfl (Nat.le_of_ble_eq_true rfl) ?_
  intro p e s m below meth c A Q hx hb hml hown hts hE hA hP hD hS hret ls hl
  have hown : s.vm.findClass RX8 = some m.cls := hown
  have hl : lv_has ls 2 [(0, .ref a_m)] := hl
  have fL19 := hts (.fieldLink RX8 19 "RainShelvesModel" "s" "[I") (List.mem_of_getElem? (i := 2) rfl)
  have fL38 := hts (.fieldLink RX8 38 "RainShelvesModel" "held" "[I") (List.mem_of_getElem? (i := 1) rfl)
  unfold f_X8_remembers at hf
  have L2 : ∀ (n2 : Nat) (v1_2 : Int32) (m_held_2 : Nat → Int32), f_X8_remembers_L2 m_s n2 v1_2 m_held_2 = some out → ∀ (H : Heap) (locs : List Loc) (ls : Array Slot), PD D A [(a_m, .inr (8, [.long m_trace, .ref a_m_text, .int m_typed, .ref a_m_told, .ref a_m_draft, .ref a_m_s, .ref a_m_past, .int m_known, .ref a_m_images, .ref a_m_kept, .ref a_m_notes, .ref a_m_noted, .int m_many, .int m_at, .int m_sort, .int m_start, .int m_value, .ref a_m_held, .ref a_m_few])), (a_m_s, .inl (cI, 51, .inl m_s)), (a_m_held, .inl (cI, 51, .inl m_held_2))] H → va_S A s.heap H locs → lv_has ls 2 [(0, .ref a_m), (1, .int v1_2)] → W p l e rmX8_remembers s m ([.ref a_m] : List Value).toArray below meth c H locs 0 0 Q (F0 m 2 ls []) := by
    intro  n2
    induction n2 with
    | zero => intro v1_2 m_held_2 hf; cases hf
    | succ n2 ih2 =>
      intro v1_2 m_held_2 hf H locs ls hPD hS hl
      obtain ⟨hP, hD⟩ := hPD
      have hf : f_X8_remembers_B2 m_s (f_X8_remembers_L2 m_s n2) v1_2 m_held_2 = some out := hf
      unfold f_X8_remembers_B2 at hf
      refine lv_iload_n hx hb dX8_remembers_2 rfl (lv_at hl 1 rfl) ?_
      refine lv_bipush (v := 51) hx hb dX8_remembers_3 (by decide) ?_
      refine lv_icmp_ge (tgt := 26) hx hb dX8_remembers_5 (by decide) (fun hc1 => ?_) (fun hc1 => ?_)
      · have hf := if_t hf hc1
        have he := Option.some.inj hf
        subst he
        exact hret _ _ _ _ dX8_remembers_26 hP hD hS
      · have hf := if_f hf hc1
        refine lv_aload_n hx hb dX8_remembers_8 rfl (lv_at hl 0 rfl) ?_
        refine va_get (D := D) (ci := 8) (v := .ref a_m_held) (C := RX8) (T := TX8) (N := 19) hx hb hts hiX8_remembers_8 hown hE.1 hP 0 rfl rfl 17 (by decide) fL38 (fun _ h9 => h9) rfl dX8_remembers_9 ?_
        refine lv_iload_n hx hb dX8_remembers_12 rfl (lv_at hl 1 rfl) ?_
        refine lv_aload_n hx hb dX8_remembers_13 rfl (lv_at hl 0 rfl) ?_
        refine va_get (D := D) (ci := 8) (v := .ref a_m_s) (C := RX8) (T := TX8) (N := 19) hx hb hts hiX8_remembers_8 hown hE.1 hP 0 rfl rfl 5 (by decide) fL19 (fun _ h9 => h9) rfl dX8_remembers_14 ?_
        refine lv_iload_n hx hb dX8_remembers_17 rfl (lv_at hl 1 rfl) ?_
        obtain ⟨hc2, hf⟩ := ck_some hf
        refine va_iald hx hb hE.1 hP 1 0 rfl rfl (ix_in hc2) dX8_remembers_18 ?_
        obtain ⟨hc3, hf⟩ := ck_some hf
        refine va_iast hx hb hE.1 hP hD hS 2 0 rfl rfl (ix_in hc3) dX8_remembers_19 (fun H locs hP hD hS => ?_)
        have hPD : PD D A [(a_m, .inr (8, [.long m_trace, .ref a_m_text, .int m_typed, .ref a_m_told, .ref a_m_draft, .ref a_m_s, .ref a_m_past, .int m_known, .ref a_m_images, .ref a_m_kept, .ref a_m_notes, .ref a_m_noted, .int m_many, .int m_at, .int m_sort, .int m_start, .int m_value, .ref a_m_held, .ref a_m_few])), (a_m_s, .inl (cI, 51, .inl m_s)), (a_m_held, .inl (cI, 51, .inl (upd m_held_2 v1_2.toNatClampNeg (m_s v1_2.toNatClampNeg))))] H := ⟨hP, hD⟩
        obtain ⟨hP, hD⟩ := hPD
        refine lv_iinc (v := (v1_2 + 1)) (lv' := [(1, .int (v1_2 + 1)), (0, .ref a_m)]) hx hb dX8_remembers_20 hl (k := 1) rfl (ii_p1 _) (by decide) rfl (fun ls hl => ?_)
        refine lv_goto (tgt := 2) hx hb dX8_remembers_23 (by decide) ?_
        exact ih2 (v1_2 + 1) (upd m_held_2 v1_2.toNatClampNeg (m_s v1_2.toNatClampNeg)) hf _ _ _ ⟨hP, hD⟩ hS (lv_sub hl [1, 0] rfl)
  refine lv_iconst (v := 0) hx hb dX8_remembers_0 (by decide) ?_
  refine lv_istore_n (lv' := [(1, .int 0), (0, .ref a_m)]) hx hb dX8_remembers_1 rfl hl (by decide) rfl (fun ls hl => ?_)
  exact L2  FU 0 m_held hf _ _ _ ⟨hP, hD⟩ hS (lv_sub hl [1, 0] rfl)
abbrev rmX8_lets : Room := { frames := 0, cells := 0, slots := 0, locals := 0 }
theorem hiX8_lets_8 : ∀ w ∈ wsX80, w ∈ wsX8_lets := fun w h => (goodIn_r (big := wsX8_lets) wsX80 [3, 4, 5, 6, 7, 8, 9, 10, 11, 12, 13, 14, 15, 16, 17, 18, 19, 20, 21] rfl (by decide +kernel) w h).1
set_option maxRecDepth 100000 in
set_option maxHeartbeats 4000000 in
theorem c_X8_lets (l : Launch) (D : va_G) (cI cZ cR : ClassId) (a_m : Nat) (a_m_held : Nat) (a_m_s : Nat) (a_m_text : Nat) (a_m_told : Nat) (a_m_draft : Nat) (a_m_past : Nat) (a_m_images : Nat) (a_m_kept : Nat) (a_m_notes : Nat) (a_m_noted : Nat) (a_m_few : Nat) (m_trace : Int64) (m_typed : Int32) (m_known : Int32) (m_many : Int32) (m_at : Int32) (m_sort : Int32) (m_start : Int32) (m_value : Int32) (m_held : Nat → Int32) (m_s : Nat → Int32) (out : (Nat → Int32)) (hf : f_X8_lets m_held m_s = some out) : Cv l yX8_lets wsX8_lets rmX8_lets D cI cZ cR [.ref a_m] [(a_m, .inr (8, [.long m_trace, .ref a_m_text, .int m_typed, .ref a_m_told, .ref a_m_draft, .ref a_m_s, .ref a_m_past, .int m_known, .ref a_m_images, .ref a_m_kept, .ref a_m_notes, .ref a_m_noted, .int m_many, .int m_at, .int m_sort, .int m_start, .int m_value, .ref a_m_held, .ref a_m_few])), (a_m_held, .inl (cI, 51, .inl m_held)), (a_m_s, .inl (cI, 51, .inl m_s))] [(a_m, .inr (8, [.long m_trace, .ref a_m_text, .int m_typed, .ref a_m_told, .ref a_m_draft, .ref a_m_s, .ref a_m_past, .int m_known, .ref a_m_images, .ref a_m_kept, .ref a_m_notes, .ref a_m_noted, .int m_many, .int m_at, .int m_sort, .int m_start, .int m_value, .ref a_m_held, .ref a_m_few])), (a_m_held, .inl (cI, 51, .inl m_held)), (a_m_s, .inl (cI, 51, .inl out))] := by
  refine ent_v (cc := cX8_lets) (maxL := 2) (by decide) rfl (Nat.le_of_ble_eq_true rfl) ?_
  intro p e s m below meth c A Q hx hb hml hown hts hE hA hP hD hS hret ls hl
  have hown : s.vm.findClass RX8 = some m.cls := hown
  have hl : lv_has ls 2 [(0, .ref a_m)] := hl
  have fL19 := hts (.fieldLink RX8 19 "RainShelvesModel" "s" "[I") (List.mem_of_getElem? (i := 1) rfl)
  have fL38 := hts (.fieldLink RX8 38 "RainShelvesModel" "held" "[I") (List.mem_of_getElem? (i := 2) rfl)
  unfold f_X8_lets at hf
  have L2 : ∀ (n2 : Nat) (v1_2 : Int32) (m_s_2 : Nat → Int32), f_X8_lets_L2 m_held n2 v1_2 m_s_2 = some out → ∀ (H : Heap) (locs : List Loc) (ls : Array Slot), PD D A [(a_m, .inr (8, [.long m_trace, .ref a_m_text, .int m_typed, .ref a_m_told, .ref a_m_draft, .ref a_m_s, .ref a_m_past, .int m_known, .ref a_m_images, .ref a_m_kept, .ref a_m_notes, .ref a_m_noted, .int m_many, .int m_at, .int m_sort, .int m_start, .int m_value, .ref a_m_held, .ref a_m_few])), (a_m_held, .inl (cI, 51, .inl m_held)), (a_m_s, .inl (cI, 51, .inl m_s_2))] H → va_S A s.heap H locs → lv_has ls 2 [(0, .ref a_m), (1, .int v1_2)] → W p l e rmX8_lets s m ([.ref a_m] : List Value).toArray below meth c H locs 0 0 Q (F0 m 2 ls []) := by
    intro  n2
    induction n2 with
    | zero => intro v1_2 m_s_2 hf; cases hf
    | succ n2 ih2 =>
      intro v1_2 m_s_2 hf H locs ls hPD hS hl
      obtain ⟨hP, hD⟩ := hPD
      have hf : f_X8_lets_B2 m_held (f_X8_lets_L2 m_held n2) v1_2 m_s_2 = some out := hf
      unfold f_X8_lets_B2 at hf
      refine lv_iload_n hx hb dX8_lets_2 rfl (lv_at hl 1 rfl) ?_
      refine lv_bipush (v := 51) hx hb dX8_lets_3 (by decide) ?_
      refine lv_icmp_ge (tgt := 26) hx hb dX8_lets_5 (by decide) (fun hc1 => ?_) (fun hc1 => ?_)
      · have hf := if_t hf hc1
        have he := Option.some.inj hf
        subst he
        exact hret _ _ _ _ dX8_lets_26 hP hD hS
      · have hf := if_f hf hc1
        refine lv_aload_n hx hb dX8_lets_8 rfl (lv_at hl 0 rfl) ?_
        refine va_get (D := D) (ci := 8) (v := .ref a_m_s) (C := RX8) (T := TX8) (N := 19) hx hb hts hiX8_lets_8 hown hE.1 hP 0 rfl rfl 5 (by decide) fL19 (fun _ h9 => h9) rfl dX8_lets_9 ?_
        refine lv_iload_n hx hb dX8_lets_12 rfl (lv_at hl 1 rfl) ?_
        refine lv_aload_n hx hb dX8_lets_13 rfl (lv_at hl 0 rfl) ?_
        refine va_get (D := D) (ci := 8) (v := .ref a_m_held) (C := RX8) (T := TX8) (N := 19) hx hb hts hiX8_lets_8 hown hE.1 hP 0 rfl rfl 17 (by decide) fL38 (fun _ h9 => h9) rfl dX8_lets_14 ?_
        refine lv_iload_n hx hb dX8_lets_17 rfl (lv_at hl 1 rfl) ?_
        obtain ⟨hc2, hf⟩ := ck_some hf
        refine va_iald hx hb hE.1 hP 1 0 rfl rfl (ix_in hc2) dX8_lets_18 ?_
        obtain ⟨hc3, hf⟩ := ck_some hf
        refine va_iast hx hb hE.1 hP hD hS 2 0 rfl rfl (ix_in hc3) dX8_lets_19 (fun H locs hP hD hS => ?_)
        have hPD : PD D A [(a_m, .inr (8, [.long m_trace, .ref a_m_text, .int m_typed, .ref a_m_told, .ref a_m_draft, .ref a_m_s, .ref a_m_past, .int m_known, .ref a_m_images, .ref a_m_kept, .ref a_m_notes, .ref a_m_noted, .int m_many, .int m_at, .int m_sort, .int m_start, .int m_value, .ref a_m_held, .ref a_m_few])), (a_m_held, .inl (cI, 51, .inl m_held)), (a_m_s, .inl (cI, 51, .inl (upd m_s_2 v1_2.toNatClampNeg (m_held v1_2.toNatClampNeg))))] H := ⟨hP, hD⟩
        obtain ⟨hP, hD⟩ := hPD
        refine lv_iinc (v := (v1_2 + 1)) (lv' := [(1, .int (v1_2 + 1)), (0, .ref a_m)]) hx hb dX8_lets_20 hl (k := 1) rfl (ii_p1 _) (by decide) rfl (fun ls hl => ?_)
        refine lv_goto (tgt := 2) hx hb dX8_lets_23 (by decide) ?_
        exact ih2 (v1_2 + 1) (upd m_s_2 v1_2.toNatClampNeg (m_held v1_2.toNatClampNeg)) hf _ _ _ ⟨hP, hD⟩ hS (lv_sub hl [1, 0] rfl)
  refine lv_iconst (v := 0) hx hb dX8_lets_0 (by decide) ?_
  refine lv_istore_n (lv' := [(1, .int 0), (0, .ref a_m)]) hx hb dX8_lets_1 rfl hl (by decide) rfl (fun ls hl => ?_)
  exact L2  FU 0 m_s hf _ _ _ ⟨hP, hD⟩ hS (lv_sub hl [1, 0] rfl)
abbrev rmX8_lasts : Room := { frames := 3, cells := 0, slots := 0, locals := 70 }
theorem cw_X8_lasts_X8_springs_127 {s : State} {args : Array Value} (hts : ∀ x ∈ wsX8_lasts, x.before args s = true) : CallW rmX8_lasts s args RX8 RX8 127 yX8_springs cX8_springs 3 (some .int) wsX8_springs rmX8_springs 0 0 0 := cwV 0 hts gX8_lasts_X8_springs rfl rfl rfl (by decide +kernel) ⟨Nat.le_of_ble_eq_true rfl, Nat.le_of_ble_eq_true rfl⟩
theorem cw_X8_lasts_X8_lets_133 {s : State} {args : Array Value} (hts : ∀ x ∈ wsX8_lasts, x.before args s = true) : CallW rmX8_lasts s args RX8 RX8 133 yX8_lets cX8_lets 2 none wsX8_lets rmX8_lets 0 0 0 := cwV 0 hts gX8_lasts_X8_lets rfl rfl rfl (by decide +kernel) ⟨Nat.le_of_ble_eq_true rfl, Nat.le_of_ble_eq_true rfl⟩
theorem cw_X8_lasts_X8_isRead_101 {s : State} {args : Array Value} (hts : ∀ x ∈ wsX8_lasts, x.before args s = true) : CallW rmX8_lasts s args RX8 RX8 101 yX8_isRead cX8_isRead 2 (some .boolean) wsX8_isRead rmX8_isRead 0 0 1 := cwV 1 hts gX8_lasts_X8_isRead rfl rfl rfl (by decide +kernel) ⟨Nat.le_of_ble_eq_true rfl, Nat.le_of_ble_eq_true rfl⟩
theorem cw_X8_lasts_X8_isPan_104 {s : State} {args : Array Value} (hts : ∀ x ∈ wsX8_lasts, x.before args s = true) : CallW rmX8_lasts s args RX8 RX8 104 yX8_isPan cX8_isPan 2 (some .boolean) wsX8_isPan rmX8_isPan 0 0 1 := cwV 1 hts gX8_lasts_X8_isPan rfl rfl rfl (by decide +kernel) ⟨Nat.le_of_ble_eq_true rfl, Nat.le_of_ble_eq_true rfl⟩
theorem cw_X8_lasts_X8_remembers_130 {s : State} {args : Array Value} (hts : ∀ x ∈ wsX8_lasts, x.before args s = true) : CallW rmX8_lasts s args RX8 RX8 130 yX8_remembers cX8_remembers 2 none wsX8_remembers rmX8_remembers 0 0 0 := cwV 0 hts gX8_lasts_X8_remembers rfl rfl rfl (by decide +kernel) ⟨Nat.le_of_ble_eq_true rfl, Nat.le_of_ble_eq_true rfl⟩
set_option maxRecDepth 100000 in
set_option maxHeartbeats 4000000 in
theorem c_X8_lasts (l : Launch) (D : va_G) (cI cZ cR : ClassId) (a_m : Nat) (a_m_told : Nat) (a_m_s : Nat) (a_m_held : Nat) (a_m_text : Nat) (a_m_draft : Nat) (a_m_past : Nat) (a_m_images : Nat) (a_m_kept : Nat) (a_m_notes : Nat) (a_m_noted : Nat) (a_m_few : Nat) (m_trace : Int64) (m_typed : Int32) (m_known : Int32) (m_many : Int32) (m_at : Int32) (m_sort : Int32) (m_start : Int32) (m_value : Int32) (m_told : Nat → Int32) (m_s : Nat → Int32) (m_held : Nat → Int32) (v1 : Int32) (out : Int32 × (Nat → Int32) × (Nat → Int32)) (hf : f_X8_lasts m_told m_s m_held v1 = some out) : Ci l yX8_lasts wsX8_lasts rmX8_lasts D cI cZ cR [.ref a_m, .int v1] [(a_m, .inr (8, [.long m_trace, .ref a_m_text, .int m_typed, .ref a_m_told, .ref a_m_draft, .ref a_m_s, .ref a_m_past, .int m_known, .ref a_m_images, .ref a_m_kept, .ref a_m_notes, .ref a_m_noted, .int m_many, .int m_at, .int m_sort, .int m_start, .int m_value, .ref a_m_held, .ref a_m_few])), (a_m_told, .inl (cI, 33, .inl m_told)), (a_m_s, .inl (cI, 51, .inl m_s)), (a_m_held, .inl (cI, 51, .inl m_held))] out.1 [(a_m, .inr (8, [.long m_trace, .ref a_m_text, .int m_typed, .ref a_m_told, .ref a_m_draft, .ref a_m_s, .ref a_m_past, .int m_known, .ref a_m_images, .ref a_m_kept, .ref a_m_notes, .ref a_m_noted, .int m_many, .int m_at, .int m_sort, .int m_start, .int m_value, .ref a_m_held, .ref a_m_few])), (a_m_told, .inl (cI, 33, .inl m_told)), (a_m_s, .inl (cI, 51, .inl out.2.1)), (a_m_held, .inl (cI, 51, .inl out.2.2))] := by
  refine ent_i (cc := cX8_lasts) (maxL := 4) .int (by decide) rfl (Nat.le_of_ble_eq_true rfl) ?_
  intro p e s m below meth c A Q hx hb hml hown hts hE hA hP hD hS hret ls hl
  have hown : s.vm.findClass RX8 = some m.cls := hown
  have hl : lv_has ls 4 [(0, .ref a_m), (1, .int v1)] := hl
  unfold f_X8_lasts at hf
  have L19 : ∀ (m_held_19 : Nat → Int32) (n19 : Nat) (v2_19 : Int32) (v3_19 : Int32) (m_s_19 : Nat → Int32), f_X8_lasts_L19 m_told v1 m_held_19 n19 v2_19 v3_19 m_s_19 = some out → ∀ (H : Heap) (locs : List Loc) (ls : Array Slot), PD D A [(a_m, .inr (8, [.long m_trace, .ref a_m_text, .int m_typed, .ref a_m_told, .ref a_m_draft, .ref a_m_s, .ref a_m_past, .int m_known, .ref a_m_images, .ref a_m_kept, .ref a_m_notes, .ref a_m_noted, .int m_many, .int m_at, .int m_sort, .int m_start, .int m_value, .ref a_m_held, .ref a_m_few])), (a_m_told, .inl (cI, 33, .inl m_told)), (a_m_s, .inl (cI, 51, .inl m_s_19)), (a_m_held, .inl (cI, 51, .inl m_held_19))] H → va_S A s.heap H locs → lv_has ls 4 [(0, .ref a_m), (1, .int v1), (2, .int v2_19), (3, .int v3_19)] → W p l e rmX8_lasts s m ([.ref a_m, .int v1] : List Value).toArray below meth c H locs 0 0 Q (F0 m 19 ls []) := by
    intro m_held_19 n19
    induction n19 with
    | zero => intro v2_19 v3_19 m_s_19 hf; cases hf
    | succ n19 ih19 =>
      intro v2_19 v3_19 m_s_19 hf H locs ls hPD hS hl
      obtain ⟨hP, hD⟩ := hPD
      have hf : f_X8_lasts_B19 m_told v1 m_held_19 (f_X8_lasts_L19 m_told v1 m_held_19 n19) v2_19 v3_19 m_s_19 = some out := hf
      unfold f_X8_lasts_B19 at hf
      have J46 : ∀ (s0_46 : Int32), f_X8_lasts_J46 m_told v3_19 m_s_19 (f_X8_lasts_L19 m_told v1 m_held_19 n19) s0_46 = some out → ∀ (H : Heap) (locs : List Loc) (ls : Array Slot), PD D A [(a_m, .inr (8, [.long m_trace, .ref a_m_text, .int m_typed, .ref a_m_told, .ref a_m_draft, .ref a_m_s, .ref a_m_past, .int m_known, .ref a_m_images, .ref a_m_kept, .ref a_m_notes, .ref a_m_noted, .int m_many, .int m_at, .int m_sort, .int m_start, .int m_value, .ref a_m_held, .ref a_m_few])), (a_m_told, .inl (cI, 33, .inl m_told)), (a_m_s, .inl (cI, 51, .inl m_s_19)), (a_m_held, .inl (cI, 51, .inl m_held_19))] H → va_S A s.heap H locs → lv_has ls 4 [(0, .ref a_m), (1, .int v1), (3, .int v3_19)] → W p l e rmX8_lasts s m ([.ref a_m, .int v1] : List Value).toArray below meth c H locs 0 0 Q (F0 m 46 ls [.int s0_46]) := by
        intro s0_46 hf H locs ls hPD hS hl
        obtain ⟨hP, hD⟩ := hPD
        unfold f_X8_lasts_J46 at hf
        refine lv_istore_n (lv' := [(2, .int s0_46), (0, .ref a_m), (1, .int v1), (3, .int v3_19)]) hx hb dX8_lasts_46 rfl hl (by decide) rfl (fun ls hl => ?_)
        refine lv_aload_n hx hb dX8_lasts_47 rfl (lv_at hl 1 rfl) ?_
        obtain ⟨u1, hu1, hf⟩ := bd_some hf
        refine cl_iV (As := []) (rest := []) ⟨hx, hb, hml, hown, hts⟩ (c_X8_springs l D cI cZ cR a_m a_m_told a_m_s a_m_text a_m_draft a_m_past a_m_images a_m_kept a_m_notes a_m_noted a_m_held a_m_few m_trace m_typed m_known m_many m_at m_sort m_start m_value m_told m_s_19  u1 hu1) (cw_X8_lasts_X8_springs_127 hts) hE hP hD hS hA [0, 1, 2] rfl rfl [a_m, a_m_told, a_m_s] rfl rfl 0 8 rfl rfl rfl hl.1 rfl (Nat.le_of_ble_eq_true rfl) dX8_lasts_48 ⟨Nat.zero_le _, Nat.zero_le _⟩ (fun H locs hP hD hS => ?_)
        have hPD : PD D A [(a_m, .inr (8, [.long m_trace, .ref a_m_text, .int m_typed, .ref a_m_told, .ref a_m_draft, .ref a_m_s, .ref a_m_past, .int m_known, .ref a_m_images, .ref a_m_kept, .ref a_m_notes, .ref a_m_noted, .int m_many, .int m_at, .int m_sort, .int m_start, .int m_value, .ref a_m_held, .ref a_m_few])), (a_m_told, .inl (cI, 33, .inl m_told)), (a_m_s, .inl (cI, 51, .inl u1.2)), (a_m_held, .inl (cI, 51, .inl m_held_19))] H := ⟨hP, hD⟩
        obtain ⟨hP, hD⟩ := hPD
        refine lv_pop hx hb dX8_lasts_51 rfl ?_
        refine lv_iinc (v := (v3_19 + 1)) (lv' := [(3, .int (v3_19 + 1)), (2, .int s0_46), (0, .ref a_m), (1, .int v1)]) hx hb dX8_lasts_52 hl (k := 3) rfl (ii_p1 _) (by decide) rfl (fun ls hl => ?_)
        refine lv_goto (tgt := 19) hx hb dX8_lasts_55 (by decide) ?_
        exact ih19 s0_46 (v3_19 + 1) u1.2 hf _ _ _ ⟨hP, hD⟩ hS (lv_sub hl [2, 3, 1, 0] rfl)
      refine lv_iload_n hx hb dX8_lasts_19 rfl (lv_at hl 3 rfl) ?_
      refine lv_sipush (v := 401) hx hb dX8_lasts_20 (by decide) ?_
      refine lv_icmp_ge (tgt := 58) hx hb dX8_lasts_23 (by decide) (fun hc1 => ?_) (fun hc1 => ?_)
      · have hf := if_t hf hc1
        refine lv_aload_n hx hb dX8_lasts_58 rfl (lv_at hl 0 rfl) ?_
        obtain ⟨u2, hu2, hf⟩ := bd_some hf
        refine cl_vV (As := []) (rest := []) ⟨hx, hb, hml, hown, hts⟩ (c_X8_lets l D cI cZ cR a_m a_m_held a_m_s a_m_text a_m_told a_m_draft a_m_past a_m_images a_m_kept a_m_notes a_m_noted a_m_few m_trace m_typed m_known m_many m_at m_sort m_start m_value m_held_19 m_s_19  u2 hu2) (cw_X8_lasts_X8_lets_133 hts) hE hP hD hS hA [0, 3, 2] rfl rfl [a_m, a_m_held, a_m_s] rfl rfl 0 8 rfl rfl rfl hl.1 rfl (Nat.le_of_ble_eq_true rfl) dX8_lasts_59 ⟨Nat.zero_le _, Nat.zero_le _⟩ (fun H locs hP hD hS => ?_)
        have hPD : PD D A [(a_m, .inr (8, [.long m_trace, .ref a_m_text, .int m_typed, .ref a_m_told, .ref a_m_draft, .ref a_m_s, .ref a_m_past, .int m_known, .ref a_m_images, .ref a_m_kept, .ref a_m_notes, .ref a_m_noted, .int m_many, .int m_at, .int m_sort, .int m_start, .int m_value, .ref a_m_held, .ref a_m_few])), (a_m_told, .inl (cI, 33, .inl m_told)), (a_m_s, .inl (cI, 51, .inl u2)), (a_m_held, .inl (cI, 51, .inl m_held_19))] H := ⟨hP, hD⟩
        obtain ⟨hP, hD⟩ := hPD
        refine lv_iload_n hx hb dX8_lasts_62 rfl (lv_at hl 2 rfl) ?_
        have he := Option.some.inj hf
        subst he
        exact hret _ _ _ _ dX8_lasts_63 rfl hP hD hS
      · have hf := if_f hf hc1
        refine lv_iload_n hx hb dX8_lasts_26 rfl (lv_at hl 2 rfl) ?_
        refine lv_bipush (v := (-9)) hx hb dX8_lasts_27 (by decide) ?_
        refine lv_icmp_ne (tgt := 58) hx hb dX8_lasts_29 (by decide) (fun hc2 => ?_) (fun hc2 => ?_)
        · have hf := if_f hf hc2
          refine lv_aload_n hx hb dX8_lasts_58 rfl (lv_at hl 0 rfl) ?_
          obtain ⟨u3, hu3, hf⟩ := bd_some hf
          refine cl_vV (As := []) (rest := []) ⟨hx, hb, hml, hown, hts⟩ (c_X8_lets l D cI cZ cR a_m a_m_held a_m_s a_m_text a_m_told a_m_draft a_m_past a_m_images a_m_kept a_m_notes a_m_noted a_m_few m_trace m_typed m_known m_many m_at m_sort m_start m_value m_held_19 m_s_19  u3 hu3) (cw_X8_lasts_X8_lets_133 hts) hE hP hD hS hA [0, 3, 2] rfl rfl [a_m, a_m_held, a_m_s] rfl rfl 0 8 rfl rfl rfl hl.1 rfl (Nat.le_of_ble_eq_true rfl) dX8_lasts_59 ⟨Nat.zero_le _, Nat.zero_le _⟩ (fun H locs hP hD hS => ?_)
          have hPD : PD D A [(a_m, .inr (8, [.long m_trace, .ref a_m_text, .int m_typed, .ref a_m_told, .ref a_m_draft, .ref a_m_s, .ref a_m_past, .int m_known, .ref a_m_images, .ref a_m_kept, .ref a_m_notes, .ref a_m_noted, .int m_many, .int m_at, .int m_sort, .int m_start, .int m_value, .ref a_m_held, .ref a_m_few])), (a_m_told, .inl (cI, 33, .inl m_told)), (a_m_s, .inl (cI, 51, .inl u3)), (a_m_held, .inl (cI, 51, .inl m_held_19))] H := ⟨hP, hD⟩
          obtain ⟨hP, hD⟩ := hPD
          refine lv_iload_n hx hb dX8_lasts_62 rfl (lv_at hl 2 rfl) ?_
          have he := Option.some.inj hf
          subst he
          exact hret _ _ _ _ dX8_lasts_63 rfl hP hD hS
        · have hf := if_t hf hc2
          refine lv_aload_n hx hb dX8_lasts_32 rfl (lv_at hl 0 rfl) ?_
          refine lv_iload_n hx hb dX8_lasts_33 rfl (lv_at hl 1 rfl) ?_
          obtain ⟨u4, hu4, hf⟩ := bd_some hf
          refine cl_iV (As := [.int v1]) (rest := []) ⟨hx, hb, hml, hown, hts⟩ (c_X8_isRead l D cI cZ cR a_m a_m_s a_m_told a_m_text a_m_draft a_m_past a_m_images a_m_kept a_m_notes a_m_noted a_m_held a_m_few m_trace m_typed m_known m_many m_at m_sort m_start m_value m_s_19 m_told v1 u4 hu4) (cw_X8_lasts_X8_isRead_101 hts) hE hP hD hS hA [0, 2, 1] rfl rfl [a_m, a_m_s, a_m_told] rfl rfl 0 8 rfl rfl rfl hl.1 rfl (Nat.le_of_ble_eq_true rfl) dX8_lasts_34 ⟨Nat.zero_le _, Nat.zero_le _⟩ (fun H locs hP hD hS => ?_)
          have hPD : PD D A [(a_m, .inr (8, [.long m_trace, .ref a_m_text, .int m_typed, .ref a_m_told, .ref a_m_draft, .ref a_m_s, .ref a_m_past, .int m_known, .ref a_m_images, .ref a_m_kept, .ref a_m_notes, .ref a_m_noted, .int m_many, .int m_at, .int m_sort, .int m_start, .int m_value, .ref a_m_held, .ref a_m_few])), (a_m_told, .inl (cI, 33, .inl m_told)), (a_m_s, .inl (cI, 51, .inl m_s_19)), (a_m_held, .inl (cI, 51, .inl m_held_19))] H := ⟨hP, hD⟩
          obtain ⟨hP, hD⟩ := hPD
          refine lv_if_eq (tgt := 45) hx hb dX8_lasts_37 (by decide) (fun hc3 => ?_) (fun hc3 => ?_)
          · have hf := if_t hf hc3
            refine lv_iload_n hx hb dX8_lasts_45 rfl (lv_at hl 3 rfl) ?_
            exact J46 v3_19 hf _ _ _ ⟨hP, hD⟩ hS (lv_sub hl [0, 1, 3] rfl)
          · have hf := if_f hf hc3
            refine lv_bipush (v := (-9)) hx hb dX8_lasts_40 (by decide) ?_
            refine lv_goto (tgt := 46) hx hb dX8_lasts_42 (by decide) ?_
            exact J46 (-9) hf _ _ _ ⟨hP, hD⟩ hS (lv_sub hl [0, 1, 3] rfl)
  refine lv_aload_n hx hb dX8_lasts_0 rfl (lv_at hl 0 rfl) ?_
  refine lv_iload_n hx hb dX8_lasts_1 rfl (lv_at hl 1 rfl) ?_
  obtain ⟨u5, hu5, hf⟩ := bd_some hf
  refine cl_iV (As := [.int v1]) (rest := []) ⟨hx, hb, hml, hown, hts⟩ (c_X8_isPan l D cI cZ cR a_m a_m_told a_m_text a_m_draft a_m_s a_m_past a_m_images a_m_kept a_m_notes a_m_noted a_m_held a_m_few m_trace m_typed m_known m_many m_at m_sort m_start m_value m_told v1 u5 hu5) (cw_X8_lasts_X8_isPan_104 hts) hE hP hD hS hA [0, 1] rfl rfl [a_m, a_m_told] rfl rfl 0 8 rfl rfl rfl hl.1 rfl (Nat.le_of_ble_eq_true rfl) dX8_lasts_2 ⟨Nat.zero_le _, Nat.zero_le _⟩ (fun H locs hP hD hS => ?_)
  have hPD : PD D A [(a_m, .inr (8, [.long m_trace, .ref a_m_text, .int m_typed, .ref a_m_told, .ref a_m_draft, .ref a_m_s, .ref a_m_past, .int m_known, .ref a_m_images, .ref a_m_kept, .ref a_m_notes, .ref a_m_noted, .int m_many, .int m_at, .int m_sort, .int m_start, .int m_value, .ref a_m_held, .ref a_m_few])), (a_m_told, .inl (cI, 33, .inl m_told)), (a_m_s, .inl (cI, 51, .inl m_s)), (a_m_held, .inl (cI, 51, .inl m_held))] H := ⟨hP, hD⟩
  obtain ⟨hP, hD⟩ := hPD
  refine lv_if_ne (tgt := 10) hx hb dX8_lasts_5 (by decide) (fun hc4 => ?_) (fun hc4 => ?_)
  · have hf := if_f hf hc4
    refine lv_aload_n hx hb dX8_lasts_10 rfl (lv_at hl 0 rfl) ?_
    obtain ⟨u6, hu6, hf⟩ := bd_some hf
    refine cl_vV (As := []) (rest := []) ⟨hx, hb, hml, hown, hts⟩ (c_X8_remembers l D cI cZ cR a_m a_m_s a_m_held a_m_text a_m_told a_m_draft a_m_past a_m_images a_m_kept a_m_notes a_m_noted a_m_few m_trace m_typed m_known m_many m_at m_sort m_start m_value m_s m_held  u6 hu6) (cw_X8_lasts_X8_remembers_130 hts) hE hP hD hS hA [0, 2, 3] rfl rfl [a_m, a_m_s, a_m_held] rfl rfl 0 8 rfl rfl rfl hl.1 rfl (Nat.le_of_ble_eq_true rfl) dX8_lasts_11 ⟨Nat.zero_le _, Nat.zero_le _⟩ (fun H locs hP hD hS => ?_)
    have hPD : PD D A [(a_m, .inr (8, [.long m_trace, .ref a_m_text, .int m_typed, .ref a_m_told, .ref a_m_draft, .ref a_m_s, .ref a_m_past, .int m_known, .ref a_m_images, .ref a_m_kept, .ref a_m_notes, .ref a_m_noted, .int m_many, .int m_at, .int m_sort, .int m_start, .int m_value, .ref a_m_held, .ref a_m_few])), (a_m_told, .inl (cI, 33, .inl m_told)), (a_m_s, .inl (cI, 51, .inl m_s)), (a_m_held, .inl (cI, 51, .inl u6))] H := ⟨hP, hD⟩
    obtain ⟨hP, hD⟩ := hPD
    refine lv_bipush (v := (-9)) hx hb dX8_lasts_14 (by decide) ?_
    refine lv_istore_n (lv' := [(2, .int (-9)), (0, .ref a_m), (1, .int v1)]) hx hb dX8_lasts_16 rfl hl (by decide) rfl (fun ls hl => ?_)
    refine lv_iconst (v := 0) hx hb dX8_lasts_17 (by decide) ?_
    refine lv_istore_n (lv' := [(3, .int 0), (2, .int (-9)), (0, .ref a_m), (1, .int v1)]) hx hb dX8_lasts_18 rfl hl (by decide) rfl (fun ls hl => ?_)
    exact L19 u6 FU (-9) 0 m_s hf _ _ _ ⟨hP, hD⟩ hS (lv_sub hl [2, 3, 1, 0] rfl)
  · have hf := if_t hf hc4
    refine lv_iconst (v := (-1)) hx hb dX8_lasts_8 (by decide) ?_
    have he := Option.some.inj hf
    subst he
    exact hret _ _ _ _ dX8_lasts_9 rfl hP hD hS
abbrev rmX8_inSprings : Room := { frames := 3, cells := 0, slots := 0, locals := 70 }
theorem cw_X8_inSprings_X8_full_98 {s : State} {args : Array Value} (hts : ∀ x ∈ wsX8_inSprings, x.before args s = true) : CallW rmX8_inSprings s args RX8 RX8 98 yX8_full cX8_full 4 (some .int) wsX8_full rmX8_full 0 0 1 := cwV 1 hts gX8_inSprings_X8_full rfl rfl rfl (by decide +kernel) ⟨Nat.le_of_ble_eq_true rfl, Nat.le_of_ble_eq_true rfl⟩
theorem cw_X8_inSprings_X8_lets_133 {s : State} {args : Array Value} (hts : ∀ x ∈ wsX8_inSprings, x.before args s = true) : CallW rmX8_inSprings s args RX8 RX8 133 yX8_lets cX8_lets 2 none wsX8_lets rmX8_lets 0 0 0 := cwV 0 hts gX8_inSprings_X8_lets rfl rfl rfl (by decide +kernel) ⟨Nat.le_of_ble_eq_true rfl, Nat.le_of_ble_eq_true rfl⟩
theorem cw_X8_inSprings_X8_allRead_111 {s : State} {args : Array Value} (hts : ∀ x ∈ wsX8_inSprings, x.before args s = true) : CallW rmX8_inSprings s args RX8 RX8 111 yX8_allRead cX8_allRead 3 (some .int) wsX8_allRead rmX8_allRead 0 0 0 := cwV 0 hts gX8_inSprings_X8_allRead rfl rfl rfl (by decide +kernel) ⟨Nat.le_of_ble_eq_true rfl, Nat.le_of_ble_eq_true rfl⟩
theorem cw_X8_inSprings_X8_ones_136 {s : State} {args : Array Value} (hts : ∀ x ∈ wsX8_inSprings, x.before args s = true) : CallB rmX8_inSprings s args RX8 136 yX8_ones cX8_ones 3 (some .int) wsX8_ones rmX8_ones 0 0 1 ∧ (Cond.static yX8_ones).before args s = true := va_cwS 1 hts gX8_inSprings_X8_ones rfl rfl rfl (by decide +kernel) ⟨Nat.le_of_ble_eq_true rfl, Nat.le_of_ble_eq_true rfl⟩
theorem cw_X8_inSprings_X8_springs_127 {s : State} {args : Array Value} (hts : ∀ x ∈ wsX8_inSprings, x.before args s = true) : CallW rmX8_inSprings s args RX8 RX8 127 yX8_springs cX8_springs 3 (some .int) wsX8_springs rmX8_springs 0 0 0 := cwV 0 hts gX8_inSprings_X8_springs rfl rfl rfl (by decide +kernel) ⟨Nat.le_of_ble_eq_true rfl, Nat.le_of_ble_eq_true rfl⟩
theorem cw_X8_inSprings_X8_in_51 {s : State} {args : Array Value} (hts : ∀ x ∈ wsX8_inSprings, x.before args s = true) : CallB rmX8_inSprings s args RX8 51 yX8_in cX8_in 3 (some .boolean) wsX8_in rmX8_in 0 0 3 ∧ (Cond.static yX8_in).before args s = true := va_cwS 3 hts gX8_inSprings_X8_in rfl rfl rfl (by decide +kernel) ⟨Nat.le_of_ble_eq_true rfl, Nat.le_of_ble_eq_true rfl⟩
theorem cw_X8_inSprings_X8_remembers_130 {s : State} {args : Array Value} (hts : ∀ x ∈ wsX8_inSprings, x.before args s = true) : CallW rmX8_inSprings s args RX8 RX8 130 yX8_remembers cX8_remembers 2 none wsX8_remembers rmX8_remembers 0 0 0 := cwV 0 hts gX8_inSprings_X8_remembers rfl rfl rfl (by decide +kernel) ⟨Nat.le_of_ble_eq_true rfl, Nat.le_of_ble_eq_true rfl⟩
theorem cw_X8_inSprings_X8_isPan_104 {s : State} {args : Array Value} (hts : ∀ x ∈ wsX8_inSprings, x.before args s = true) : CallW rmX8_inSprings s args RX8 RX8 104 yX8_isPan cX8_isPan 2 (some .boolean) wsX8_isPan rmX8_isPan 0 0 1 := cwV 1 hts gX8_inSprings_X8_isPan rfl rfl rfl (by decide +kernel) ⟨Nat.le_of_ble_eq_true rfl, Nat.le_of_ble_eq_true rfl⟩
set_option maxRecDepth 100000 in
set_option maxHeartbeats 4000000 in
theorem c_X8_inSprings (l : Launch) (D : va_G) (cI cZ cR : ClassId) (a_m : Nat) (a_m_told : Nat) (a_m_s : Nat) (a_m_held : Nat) (a_m_text : Nat) (a_m_draft : Nat) (a_m_past : Nat) (a_m_images : Nat) (a_m_kept : Nat) (a_m_notes : Nat) (a_m_noted : Nat) (a_m_few : Nat) (m_trace : Int64) (m_typed : Int32) (m_known : Int32) (m_many : Int32) (m_at : Int32) (m_sort : Int32) (m_start : Int32) (m_value : Int32) (m_told : Nat → Int32) (m_s : Nat → Int32) (m_held : Nat → Int32) (v1 : Int32) (v2 : Int32) (out : Int32 × (Nat → Int32) × (Nat → Int32)) (hf : f_X8_inSprings m_told m_s m_held v1 v2 = some out) : Ci l yX8_inSprings wsX8_inSprings rmX8_inSprings D cI cZ cR [.ref a_m, .int v1, .int v2] [(a_m, .inr (8, [.long m_trace, .ref a_m_text, .int m_typed, .ref a_m_told, .ref a_m_draft, .ref a_m_s, .ref a_m_past, .int m_known, .ref a_m_images, .ref a_m_kept, .ref a_m_notes, .ref a_m_noted, .int m_many, .int m_at, .int m_sort, .int m_start, .int m_value, .ref a_m_held, .ref a_m_few])), (a_m_told, .inl (cI, 33, .inl m_told)), (a_m_s, .inl (cI, 51, .inl m_s)), (a_m_held, .inl (cI, 51, .inl m_held))] out.1 [(a_m, .inr (8, [.long m_trace, .ref a_m_text, .int m_typed, .ref a_m_told, .ref a_m_draft, .ref a_m_s, .ref a_m_past, .int m_known, .ref a_m_images, .ref a_m_kept, .ref a_m_notes, .ref a_m_noted, .int m_many, .int m_at, .int m_sort, .int m_start, .int m_value, .ref a_m_held, .ref a_m_few])), (a_m_told, .inl (cI, 33, .inl m_told)), (a_m_s, .inl (cI, 51, .inl out.2.1)), (a_m_held, .inl (cI, 51, .inl out.2.2))] := by
  refine ent_i (cc := cX8_inSprings) (maxL := 4) .int (by decide) rfl (Nat.le_of_ble_eq_true rfl) ?_
  intro p e s m below meth c A Q hx hb hml hown hts hE hA hP hD hS hret ls hl
  have hown : s.vm.findClass RX8 = some m.cls := hown
  have hl : lv_has ls 4 [(0, .ref a_m), (1, .int v1), (2, .int v2)] := hl
  unfold f_X8_inSprings at hf
  have J48 : ∀ (m_s_48 : Nat → Int32) (m_held_48 : Nat → Int32), f_X8_inSprings_J48 m_told v2 m_s_48 m_held_48 = some out → ∀ (H : Heap) (locs : List Loc) (ls : Array Slot), PD D A [(a_m, .inr (8, [.long m_trace, .ref a_m_text, .int m_typed, .ref a_m_told, .ref a_m_draft, .ref a_m_s, .ref a_m_past, .int m_known, .ref a_m_images, .ref a_m_kept, .ref a_m_notes, .ref a_m_noted, .int m_many, .int m_at, .int m_sort, .int m_start, .int m_value, .ref a_m_held, .ref a_m_few])), (a_m_told, .inl (cI, 33, .inl m_told)), (a_m_s, .inl (cI, 51, .inl m_s_48)), (a_m_held, .inl (cI, 51, .inl m_held_48))] H → va_S A s.heap H locs → lv_has ls 4 [(0, .ref a_m), (2, .int v2)] → W p l e rmX8_inSprings s m ([.ref a_m, .int v1, .int v2] : List Value).toArray below meth c H locs 0 0 Q (F0 m 48 ls []) := by
    intro m_s_48 m_held_48 hf H locs ls hPD hS hl
    obtain ⟨hP, hD⟩ := hPD
    unfold f_X8_inSprings_J48 at hf
    refine lv_iload_n hx hb dX8_inSprings_48 rfl (lv_at hl 1 rfl) ?_
    refine lv_if_ge (tgt := 62) hx hb dX8_inSprings_49 (by decide) (fun hc1 => ?_) (fun hc1 => ?_)
    · have hf := if_t hf hc1
      refine lv_aload_n hx hb dX8_inSprings_62 rfl (lv_at hl 0 rfl) ?_
      refine lv_iload_n hx hb dX8_inSprings_63 rfl (lv_at hl 1 rfl) ?_
      obtain ⟨u1, hu1, hf⟩ := bd_some hf
      refine cl_iV (As := [.int v2]) (rest := []) ⟨hx, hb, hml, hown, hts⟩ (c_X8_full l D cI cZ cR a_m a_m_s a_m_text a_m_told a_m_draft a_m_past a_m_images a_m_kept a_m_notes a_m_noted a_m_held a_m_few m_trace m_typed m_known m_many m_at m_sort m_start m_value m_s_48 v2 u1 hu1) (cw_X8_inSprings_X8_full_98 hts) hE hP hD hS hA [0, 2] rfl rfl [a_m, a_m_s] rfl rfl 0 8 rfl rfl rfl hl.1 rfl (Nat.le_of_ble_eq_true rfl) dX8_inSprings_64 ⟨Nat.zero_le _, Nat.zero_le _⟩ (fun H locs hP hD hS => ?_)
      have hPD : PD D A [(a_m, .inr (8, [.long m_trace, .ref a_m_text, .int m_typed, .ref a_m_told, .ref a_m_draft, .ref a_m_s, .ref a_m_past, .int m_known, .ref a_m_images, .ref a_m_kept, .ref a_m_notes, .ref a_m_noted, .int m_many, .int m_at, .int m_sort, .int m_start, .int m_value, .ref a_m_held, .ref a_m_few])), (a_m_told, .inl (cI, 33, .inl m_told)), (a_m_s, .inl (cI, 51, .inl m_s_48)), (a_m_held, .inl (cI, 51, .inl m_held_48))] H := ⟨hP, hD⟩
      obtain ⟨hP, hD⟩ := hPD
      refine lv_istore_n (lv' := [(3, .int u1), (0, .ref a_m), (2, .int v2)]) hx hb dX8_inSprings_67 rfl hl (by decide) rfl (fun ls hl => ?_)
      refine lv_aload_n hx hb dX8_inSprings_68 rfl (lv_at hl 1 rfl) ?_
      obtain ⟨u2, hu2, hf⟩ := bd_some hf
      refine cl_vV (As := []) (rest := []) ⟨hx, hb, hml, hown, hts⟩ (c_X8_lets l D cI cZ cR a_m a_m_held a_m_s a_m_text a_m_told a_m_draft a_m_past a_m_images a_m_kept a_m_notes a_m_noted a_m_few m_trace m_typed m_known m_many m_at m_sort m_start m_value m_held_48 m_s_48  u2 hu2) (cw_X8_inSprings_X8_lets_133 hts) hE hP hD hS hA [0, 3, 2] rfl rfl [a_m, a_m_held, a_m_s] rfl rfl 0 8 rfl rfl rfl hl.1 rfl (Nat.le_of_ble_eq_true rfl) dX8_inSprings_69 ⟨Nat.zero_le _, Nat.zero_le _⟩ (fun H locs hP hD hS => ?_)
      have hPD : PD D A [(a_m, .inr (8, [.long m_trace, .ref a_m_text, .int m_typed, .ref a_m_told, .ref a_m_draft, .ref a_m_s, .ref a_m_past, .int m_known, .ref a_m_images, .ref a_m_kept, .ref a_m_notes, .ref a_m_noted, .int m_many, .int m_at, .int m_sort, .int m_start, .int m_value, .ref a_m_held, .ref a_m_few])), (a_m_told, .inl (cI, 33, .inl m_told)), (a_m_s, .inl (cI, 51, .inl u2)), (a_m_held, .inl (cI, 51, .inl m_held_48))] H := ⟨hP, hD⟩
      obtain ⟨hP, hD⟩ := hPD
      refine lv_iload_n hx hb dX8_inSprings_72 rfl (lv_at hl 0 rfl) ?_
      have he := Option.some.inj hf
      subst he
      exact hret _ _ _ _ dX8_inSprings_73 rfl hP hD hS
    · have hf := if_f hf hc1
      refine lv_aload_n hx hb dX8_inSprings_52 rfl (lv_at hl 0 rfl) ?_
      obtain ⟨u3, hu3, hf⟩ := bd_some hf
      refine cl_iV (As := []) (rest := []) ⟨hx, hb, hml, hown, hts⟩ (c_X8_allRead l D cI cZ cR a_m a_m_told a_m_s a_m_text a_m_draft a_m_past a_m_images a_m_kept a_m_notes a_m_noted a_m_held a_m_few m_trace m_typed m_known m_many m_at m_sort m_start m_value m_told m_s_48  u3 hu3) (cw_X8_inSprings_X8_allRead_111 hts) hE hP hD hS hA [0, 1, 2] rfl rfl [a_m, a_m_told, a_m_s] rfl rfl 0 8 rfl rfl rfl hl.1 rfl (Nat.le_of_ble_eq_true rfl) dX8_inSprings_53 ⟨Nat.zero_le _, Nat.zero_le _⟩ (fun H locs hP hD hS => ?_)
      have hPD : PD D A [(a_m, .inr (8, [.long m_trace, .ref a_m_text, .int m_typed, .ref a_m_told, .ref a_m_draft, .ref a_m_s, .ref a_m_past, .int m_known, .ref a_m_images, .ref a_m_kept, .ref a_m_notes, .ref a_m_noted, .int m_many, .int m_at, .int m_sort, .int m_start, .int m_value, .ref a_m_held, .ref a_m_few])), (a_m_told, .inl (cI, 33, .inl m_told)), (a_m_s, .inl (cI, 51, .inl m_s_48)), (a_m_held, .inl (cI, 51, .inl m_held_48))] H := ⟨hP, hD⟩
      obtain ⟨hP, hD⟩ := hPD
      obtain ⟨u4, hu4, hf⟩ := bd_some hf
      refine cl_iS (As := [.int u3]) (rest := []) ⟨hx, hb, hml, hown, hts⟩ (c_X8_ones l D cI cZ cR   u3 u4 hu4) (cw_X8_inSprings_X8_ones_136 hts) hE hP hD hS hA rfl hl.1 rfl (Nat.le_of_ble_eq_true rfl) dX8_inSprings_56 ⟨Nat.zero_le _, Nat.zero_le _⟩ (fun H locs hP hS => ?_)
      refine lv_goto (tgt := 67) hx hb dX8_inSprings_59 (by decide) ?_
      refine lv_istore_n (lv' := [(3, .int u4), (0, .ref a_m), (2, .int v2)]) hx hb dX8_inSprings_67 rfl hl (by decide) rfl (fun ls hl => ?_)
      refine lv_aload_n hx hb dX8_inSprings_68 rfl (lv_at hl 1 rfl) ?_
      obtain ⟨u5, hu5, hf⟩ := bd_some hf
      refine cl_vV (As := []) (rest := []) ⟨hx, hb, hml, hown, hts⟩ (c_X8_lets l D cI cZ cR a_m a_m_held a_m_s a_m_text a_m_told a_m_draft a_m_past a_m_images a_m_kept a_m_notes a_m_noted a_m_few m_trace m_typed m_known m_many m_at m_sort m_start m_value m_held_48 m_s_48  u5 hu5) (cw_X8_inSprings_X8_lets_133 hts) hE hP hD hS hA [0, 3, 2] rfl rfl [a_m, a_m_held, a_m_s] rfl rfl 0 8 rfl rfl rfl hl.1 rfl (Nat.le_of_ble_eq_true rfl) dX8_inSprings_69 ⟨Nat.zero_le _, Nat.zero_le _⟩ (fun H locs hP hD hS => ?_)
      have hPD : PD D A [(a_m, .inr (8, [.long m_trace, .ref a_m_text, .int m_typed, .ref a_m_told, .ref a_m_draft, .ref a_m_s, .ref a_m_past, .int m_known, .ref a_m_images, .ref a_m_kept, .ref a_m_notes, .ref a_m_noted, .int m_many, .int m_at, .int m_sort, .int m_start, .int m_value, .ref a_m_held, .ref a_m_few])), (a_m_told, .inl (cI, 33, .inl m_told)), (a_m_s, .inl (cI, 51, .inl u5)), (a_m_held, .inl (cI, 51, .inl m_held_48))] H := ⟨hP, hD⟩
      obtain ⟨hP, hD⟩ := hPD
      refine lv_iload_n hx hb dX8_inSprings_72 rfl (lv_at hl 0 rfl) ?_
      have he := Option.some.inj hf
      subst he
      exact hret _ _ _ _ dX8_inSprings_73 rfl hP hD hS
  have L32 : ∀ (m_held_32 : Nat → Int32) (n32 : Nat) (v3_32 : Int32) (m_s_32 : Nat → Int32), f_X8_inSprings_L32 m_told v1 v2 m_held_32 n32 v3_32 m_s_32 = some out → ∀ (H : Heap) (locs : List Loc) (ls : Array Slot), PD D A [(a_m, .inr (8, [.long m_trace, .ref a_m_text, .int m_typed, .ref a_m_told, .ref a_m_draft, .ref a_m_s, .ref a_m_past, .int m_known, .ref a_m_images, .ref a_m_kept, .ref a_m_notes, .ref a_m_noted, .int m_many, .int m_at, .int m_sort, .int m_start, .int m_value, .ref a_m_held, .ref a_m_few])), (a_m_told, .inl (cI, 33, .inl m_told)), (a_m_s, .inl (cI, 51, .inl m_s_32)), (a_m_held, .inl (cI, 51, .inl m_held_32))] H → va_S A s.heap H locs → lv_has ls 4 [(0, .ref a_m), (1, .int v1), (2, .int v2), (3, .int v3_32)] → W p l e rmX8_inSprings s m ([.ref a_m, .int v1, .int v2] : List Value).toArray below meth c H locs 0 0 Q (F0 m 32 ls []) := by
    intro m_held_32 n32
    induction n32 with
    | zero => intro v3_32 m_s_32 hf; cases hf
    | succ n32 ih32 =>
      intro v3_32 m_s_32 hf H locs ls hPD hS hl
      obtain ⟨hP, hD⟩ := hPD
      have hf : f_X8_inSprings_B32 m_told v1 v2 m_held_32 (f_X8_inSprings_L32 m_told v1 v2 m_held_32 n32) v3_32 m_s_32 = some out := hf
      unfold f_X8_inSprings_B32 at hf
      refine lv_iload_n hx hb dX8_inSprings_32 rfl (lv_at hl 3 rfl) ?_
      refine lv_iload_n hx hb dX8_inSprings_33 rfl (lv_at hl 1 rfl) ?_
      refine lv_icmp_ge (tgt := 48) hx hb dX8_inSprings_34 (by decide) (fun hc2 => ?_) (fun hc2 => ?_)
      · have hf := if_t hf hc2
        exact J48 m_s_32 m_held_32 hf _ _ _ ⟨hP, hD⟩ hS (lv_sub hl [0, 2] rfl)
      · have hf := if_f hf hc2
        refine lv_aload_n hx hb dX8_inSprings_37 rfl (lv_at hl 0 rfl) ?_
        obtain ⟨u6, hu6, hf⟩ := bd_some hf
        refine cl_iV (As := []) (rest := []) ⟨hx, hb, hml, hown, hts⟩ (c_X8_springs l D cI cZ cR a_m a_m_told a_m_s a_m_text a_m_draft a_m_past a_m_images a_m_kept a_m_notes a_m_noted a_m_held a_m_few m_trace m_typed m_known m_many m_at m_sort m_start m_value m_told m_s_32  u6 hu6) (cw_X8_inSprings_X8_springs_127 hts) hE hP hD hS hA [0, 1, 2] rfl rfl [a_m, a_m_told, a_m_s] rfl rfl 0 8 rfl rfl rfl hl.1 rfl (Nat.le_of_ble_eq_true rfl) dX8_inSprings_38 ⟨Nat.zero_le _, Nat.zero_le _⟩ (fun H locs hP hD hS => ?_)
        have hPD : PD D A [(a_m, .inr (8, [.long m_trace, .ref a_m_text, .int m_typed, .ref a_m_told, .ref a_m_draft, .ref a_m_s, .ref a_m_past, .int m_known, .ref a_m_images, .ref a_m_kept, .ref a_m_notes, .ref a_m_noted, .int m_many, .int m_at, .int m_sort, .int m_start, .int m_value, .ref a_m_held, .ref a_m_few])), (a_m_told, .inl (cI, 33, .inl m_told)), (a_m_s, .inl (cI, 51, .inl u6.2)), (a_m_held, .inl (cI, 51, .inl m_held_32))] H := ⟨hP, hD⟩
        obtain ⟨hP, hD⟩ := hPD
        refine lv_pop hx hb dX8_inSprings_41 rfl ?_
        refine lv_iinc (v := (v3_32 + 1)) (lv' := [(3, .int (v3_32 + 1)), (0, .ref a_m), (1, .int v1), (2, .int v2)]) hx hb dX8_inSprings_42 hl (k := 3) rfl (ii_p1 _) (by decide) rfl (fun ls hl => ?_)
        refine lv_goto (tgt := 32) hx hb dX8_inSprings_45 (by decide) ?_
        exact ih32 (v3_32 + 1) u6.2 hf _ _ _ ⟨hP, hD⟩ hS (lv_sub hl [1, 2, 3, 0] rfl)
  refine lv_iload_n hx hb dX8_inSprings_0 rfl (lv_at hl 1 rfl) ?_
  refine lv_iconst (v := 0) hx hb dX8_inSprings_1 (by decide) ?_
  refine lv_sipush (v := 200) hx hb dX8_inSprings_2 (by decide) ?_
  obtain ⟨u7, hu7, hf⟩ := bd_some hf
  refine cl_iS (As := [.int v1, .int 0, .int 200]) (rest := []) ⟨hx, hb, hml, hown, hts⟩ (c_X8_in l D cI cZ cR   v1 0 200 u7 hu7) (cw_X8_inSprings_X8_in_51 hts) hE hP hD hS hA rfl hl.1 rfl (Nat.le_of_ble_eq_true rfl) dX8_inSprings_5 ⟨Nat.zero_le _, Nat.zero_le _⟩ (fun H locs hP hS => ?_)
  refine lv_if_eq (tgt := 24) hx hb dX8_inSprings_8 (by decide) (fun hc3 => ?_) (fun hc3 => ?_)
  · have hf := if_t hf hc3
    refine lv_iconst (v := (-1)) hx hb dX8_inSprings_24 (by decide) ?_
    have he := Option.some.inj hf
    subst he
    exact hret _ _ _ _ dX8_inSprings_25 rfl hP hD hS
  · have hf := if_f hf hc3
    refine lv_iload_n hx hb dX8_inSprings_11 rfl (lv_at hl 2 rfl) ?_
    refine lv_iconst (v := (-1)) hx hb dX8_inSprings_12 (by decide) ?_
    refine lv_icmp_eq (tgt := 26) hx hb dX8_inSprings_13 (by decide) (fun hc4 => ?_) (fun hc4 => ?_)
    · have hf := if_t hf hc4
      refine lv_aload_n hx hb dX8_inSprings_26 rfl (lv_at hl 0 rfl) ?_
      obtain ⟨u8, hu8, hf⟩ := bd_some hf
      refine cl_vV (As := []) (rest := []) ⟨hx, hb, hml, hown, hts⟩ (c_X8_remembers l D cI cZ cR a_m a_m_s a_m_held a_m_text a_m_told a_m_draft a_m_past a_m_images a_m_kept a_m_notes a_m_noted a_m_few m_trace m_typed m_known m_many m_at m_sort m_start m_value m_s m_held  u8 hu8) (cw_X8_inSprings_X8_remembers_130 hts) hE hP hD hS hA [0, 2, 3] rfl rfl [a_m, a_m_s, a_m_held] rfl rfl 0 8 rfl rfl rfl hl.1 rfl (Nat.le_of_ble_eq_true rfl) dX8_inSprings_27 ⟨Nat.zero_le _, Nat.zero_le _⟩ (fun H locs hP hD hS => ?_)
      have hPD : PD D A [(a_m, .inr (8, [.long m_trace, .ref a_m_text, .int m_typed, .ref a_m_told, .ref a_m_draft, .ref a_m_s, .ref a_m_past, .int m_known, .ref a_m_images, .ref a_m_kept, .ref a_m_notes, .ref a_m_noted, .int m_many, .int m_at, .int m_sort, .int m_start, .int m_value, .ref a_m_held, .ref a_m_few])), (a_m_told, .inl (cI, 33, .inl m_told)), (a_m_s, .inl (cI, 51, .inl m_s)), (a_m_held, .inl (cI, 51, .inl u8))] H := ⟨hP, hD⟩
      obtain ⟨hP, hD⟩ := hPD
      refine lv_iconst (v := 0) hx hb dX8_inSprings_30 (by decide) ?_
      refine lv_istore_n (lv' := [(3, .int 0), (0, .ref a_m), (1, .int v1), (2, .int v2)]) hx hb dX8_inSprings_31 rfl hl (by decide) rfl (fun ls hl => ?_)
      exact L32 u8 FU 0 m_s hf _ _ _ ⟨hP, hD⟩ hS (lv_sub hl [1, 2, 3, 0] rfl)
    · have hf := if_f hf hc4
      refine lv_aload_n hx hb dX8_inSprings_16 rfl (lv_at hl 0 rfl) ?_
      refine lv_iload_n hx hb dX8_inSprings_17 rfl (lv_at hl 2 rfl) ?_
      obtain ⟨u9, hu9, hf⟩ := bd_some hf
      refine cl_iV (As := [.int v2]) (rest := []) ⟨hx, hb, hml, hown, hts⟩ (c_X8_isPan l D cI cZ cR a_m a_m_told a_m_text a_m_draft a_m_s a_m_past a_m_images a_m_kept a_m_notes a_m_noted a_m_held a_m_few m_trace m_typed m_known m_many m_at m_sort m_start m_value m_told v2 u9 hu9) (cw_X8_inSprings_X8_isPan_104 hts) hE hP hD hS hA [0, 1] rfl rfl [a_m, a_m_told] rfl rfl 0 8 rfl rfl rfl hl.1 rfl (Nat.le_of_ble_eq_true rfl) dX8_inSprings_18 ⟨Nat.zero_le _, Nat.zero_le _⟩ (fun H locs hP hD hS => ?_)
      have hPD : PD D A [(a_m, .inr (8, [.long m_trace, .ref a_m_text, .int m_typed, .ref a_m_told, .ref a_m_draft, .ref a_m_s, .ref a_m_past, .int m_known, .ref a_m_images, .ref a_m_kept, .ref a_m_notes, .ref a_m_noted, .int m_many, .int m_at, .int m_sort, .int m_start, .int m_value, .ref a_m_held, .ref a_m_few])), (a_m_told, .inl (cI, 33, .inl m_told)), (a_m_s, .inl (cI, 51, .inl m_s)), (a_m_held, .inl (cI, 51, .inl m_held))] H := ⟨hP, hD⟩
      obtain ⟨hP, hD⟩ := hPD
      refine lv_if_ne (tgt := 26) hx hb dX8_inSprings_21 (by decide) (fun hc5 => ?_) (fun hc5 => ?_)
      · have hf := if_f hf hc5
        refine lv_aload_n hx hb dX8_inSprings_26 rfl (lv_at hl 0 rfl) ?_
        obtain ⟨u10, hu10, hf⟩ := bd_some hf
        refine cl_vV (As := []) (rest := []) ⟨hx, hb, hml, hown, hts⟩ (c_X8_remembers l D cI cZ cR a_m a_m_s a_m_held a_m_text a_m_told a_m_draft a_m_past a_m_images a_m_kept a_m_notes a_m_noted a_m_few m_trace m_typed m_known m_many m_at m_sort m_start m_value m_s m_held  u10 hu10) (cw_X8_inSprings_X8_remembers_130 hts) hE hP hD hS hA [0, 2, 3] rfl rfl [a_m, a_m_s, a_m_held] rfl rfl 0 8 rfl rfl rfl hl.1 rfl (Nat.le_of_ble_eq_true rfl) dX8_inSprings_27 ⟨Nat.zero_le _, Nat.zero_le _⟩ (fun H locs hP hD hS => ?_)
        have hPD : PD D A [(a_m, .inr (8, [.long m_trace, .ref a_m_text, .int m_typed, .ref a_m_told, .ref a_m_draft, .ref a_m_s, .ref a_m_past, .int m_known, .ref a_m_images, .ref a_m_kept, .ref a_m_notes, .ref a_m_noted, .int m_many, .int m_at, .int m_sort, .int m_start, .int m_value, .ref a_m_held, .ref a_m_few])), (a_m_told, .inl (cI, 33, .inl m_told)), (a_m_s, .inl (cI, 51, .inl m_s)), (a_m_held, .inl (cI, 51, .inl u10))] H := ⟨hP, hD⟩
        obtain ⟨hP, hD⟩ := hPD
        refine lv_iconst (v := 0) hx hb dX8_inSprings_30 (by decide) ?_
        refine lv_istore_n (lv' := [(3, .int 0), (0, .ref a_m), (1, .int v1), (2, .int v2)]) hx hb dX8_inSprings_31 rfl hl (by decide) rfl (fun ls hl => ?_)
        exact L32 u10 FU 0 m_s hf _ _ _ ⟨hP, hD⟩ hS (lv_sub hl [1, 2, 3, 0] rfl)
      · have hf := if_t hf hc5
        refine lv_iconst (v := (-1)) hx hb dX8_inSprings_24 (by decide) ?_
        have he := Option.some.inj hf
        subst he
        exact hret _ _ _ _ dX8_inSprings_25 rfl hP hD hS
abbrev rmX8_fire : Room := { frames := 3, cells := 0, slots := 0, locals := 66 }
theorem hiX8_fire_8 : ∀ w ∈ wsX80, w ∈ wsX8_fire := fun w h => (goodIn_r (big := wsX8_fire) wsX80 [22, 23, 24, 25, 26, 27, 28, 29, 30, 31, 32, 33, 34, 35, 36, 37, 38, 39, 40] rfl (by decide +kernel) w h).1
theorem cw_X8_fire_X8_allRead_111 {s : State} {args : Array Value} (hts : ∀ x ∈ wsX8_fire, x.before args s = true) : CallW rmX8_fire s args RX8 RX8 111 yX8_allRead cX8_allRead 3 (some .int) wsX8_allRead rmX8_allRead 0 0 0 := cwV 0 hts gX8_fire_X8_allRead rfl rfl rfl (by decide +kernel) ⟨Nat.le_of_ble_eq_true rfl, Nat.le_of_ble_eq_true rfl⟩
theorem cw_X8_fire_X8_ones_136 {s : State} {args : Array Value} (hts : ∀ x ∈ wsX8_fire, x.before args s = true) : CallB rmX8_fire s args RX8 136 yX8_ones cX8_ones 3 (some .int) wsX8_ones rmX8_ones 0 0 1 ∧ (Cond.static yX8_ones).before args s = true := va_cwS 1 hts gX8_fire_X8_ones rfl rfl rfl (by decide +kernel) ⟨Nat.le_of_ble_eq_true rfl, Nat.le_of_ble_eq_true rfl⟩
theorem cw_X8_fire_X8_full_98 {s : State} {args : Array Value} (hts : ∀ x ∈ wsX8_fire, x.before args s = true) : CallW rmX8_fire s args RX8 RX8 98 yX8_full cX8_full 4 (some .int) wsX8_full rmX8_full 0 0 1 := cwV 1 hts gX8_fire_X8_full rfl rfl rfl (by decide +kernel) ⟨Nat.le_of_ble_eq_true rfl, Nat.le_of_ble_eq_true rfl⟩
theorem cw_X8_fire_X8_in_51 {s : State} {args : Array Value} (hts : ∀ x ∈ wsX8_fire, x.before args s = true) : CallB rmX8_fire s args RX8 51 yX8_in cX8_in 3 (some .boolean) wsX8_in rmX8_in 0 0 3 ∧ (Cond.static yX8_in).before args s = true := va_cwS 3 hts gX8_fire_X8_in rfl rfl rfl (by decide +kernel) ⟨Nat.le_of_ble_eq_true rfl, Nat.le_of_ble_eq_true rfl⟩
set_option maxRecDepth 100000 in
set_option maxHeartbeats 4000000 in
theorem c_X8_fire (l : Launch) (D : va_G) (cI cZ cR : ClassId) (a_m : Nat) (a_m_told : Nat) (a_m_s : Nat) (a_m_text : Nat) (a_m_draft : Nat) (a_m_past : Nat) (a_m_images : Nat) (a_m_kept : Nat) (a_m_notes : Nat) (a_m_noted : Nat) (a_m_held : Nat) (a_m_few : Nat) (m_trace : Int64) (m_typed : Int32) (m_known : Int32) (m_many : Int32) (m_at : Int32) (m_sort : Int32) (m_start : Int32) (m_value : Int32) (m_told : Nat → Int32) (m_s : Nat → Int32) (v1 : Int32) (v2 : Int32) (out : Int32) (hf : f_X8_fire m_told m_s v1 v2 = some out) : Ci l yX8_fire wsX8_fire rmX8_fire D cI cZ cR [.ref a_m, .int v1, .int v2] [(a_m, .inr (8, [.long m_trace, .ref a_m_text, .int m_typed, .ref a_m_told, .ref a_m_draft, .ref a_m_s, .ref a_m_past, .int m_known, .ref a_m_images, .ref a_m_kept, .ref a_m_notes, .ref a_m_noted, .int m_many, .int m_at, .int m_sort, .int m_start, .int m_value, .ref a_m_held, .ref a_m_few])), (a_m_told, .inl (cI, 33, .inl m_told)), (a_m_s, .inl (cI, 51, .inl m_s))] out [(a_m, .inr (8, [.long m_trace, .ref a_m_text, .int m_typed, .ref a_m_told, .ref a_m_draft, .ref a_m_s, .ref a_m_past, .int m_known, .ref a_m_images, .ref a_m_kept, .ref a_m_notes, .ref a_m_noted, .int m_many, .int m_at, .int m_sort, .int m_start, .int m_value, .ref a_m_held, .ref a_m_few])), (a_m_told, .inl (cI, 33, .inl m_told)), (a_m_s, .inl (cI, 51, .inl m_s))] := by
  refine ent_i (cc := cX8_fire) (maxL := 10) .int (by decide) rfl (Nat.le_of_ble_eq_true rfl) ?_
  intro p e s m below meth c A Q hx hb hml hown hts hE hA hP hD hS hret ls hl
  have hown : s.vm.findClass RX8 = some m.cls := hown
  have hl : lv_has ls 10 [(0, .ref a_m), (1, .int v1), (2, .int v2)] := hl
  have fL13 := hts (.fieldLink RX8 13 "RainShelvesModel" "told" "[I") (List.mem_of_getElem? (i := 1) rfl)
  unfold f_X8_fire at hf
  have L35 : ∀ (n35 : Nat) (v3_35 : Int32) (v4_35 : Int32) (v5_35 : Int32) (v6_35 : Int32), f_X8_fire_L35 m_told m_s v1 v2 n35 v3_35 v4_35 v5_35 v6_35 = some out → ∀ (H : Heap) (locs : List Loc) (ls : Array Slot), PD D A [(a_m, .inr (8, [.long m_trace, .ref a_m_text, .int m_typed, .ref a_m_told, .ref a_m_draft, .ref a_m_s, .ref a_m_past, .int m_known, .ref a_m_images, .ref a_m_kept, .ref a_m_notes, .ref a_m_noted, .int m_many, .int m_at, .int m_sort, .int m_start, .int m_value, .ref a_m_held, .ref a_m_few])), (a_m_told, .inl (cI, 33, .inl m_told)), (a_m_s, .inl (cI, 51, .inl m_s))] H → va_S A s.heap H locs → lv_has ls 10 [(0, .ref a_m), (1, .int v1), (2, .int v2), (3, .int v3_35), (4, .int v4_35), (5, .int v5_35), (6, .int v6_35)] → W p l e rmX8_fire s m ([.ref a_m, .int v1, .int v2] : List Value).toArray below meth c H locs 0 0 Q (F0 m 35 ls []) := by
    intro  n35
    induction n35 with
    | zero => intro v3_35 v4_35 v5_35 v6_35 hf; cases hf
    | succ n35 ih35 =>
      intro v3_35 v4_35 v5_35 v6_35 hf H locs ls hPD hS hl
      obtain ⟨hP, hD⟩ := hPD
      have hf : f_X8_fire_B35 m_told m_s v1 v2 (f_X8_fire_L35 m_told m_s v1 v2 n35) v3_35 v4_35 v5_35 v6_35 = some out := hf
      unfold f_X8_fire_B35 at hf
      have J175 : ∀ (v3_175 : Int32) (v7_175 : Int32) (v9_175 : Int32) (s0_175 : Int32), f_X8_fire_J175 v5_35 v6_35 (f_X8_fire_L35 m_told m_s v1 v2 n35) v3_175 v7_175 v9_175 s0_175 = some out → ∀ (H : Heap) (locs : List Loc) (ls : Array Slot), PD D A [(a_m, .inr (8, [.long m_trace, .ref a_m_text, .int m_typed, .ref a_m_told, .ref a_m_draft, .ref a_m_s, .ref a_m_past, .int m_known, .ref a_m_images, .ref a_m_kept, .ref a_m_notes, .ref a_m_noted, .int m_many, .int m_at, .int m_sort, .int m_start, .int m_value, .ref a_m_held, .ref a_m_few])), (a_m_told, .inl (cI, 33, .inl m_told)), (a_m_s, .inl (cI, 51, .inl m_s))] H → va_S A s.heap H locs → lv_has ls 10 [(0, .ref a_m), (1, .int v1), (2, .int v2), (3, .int v3_175), (5, .int v5_35), (6, .int v6_35), (7, .int v7_175), (9, .int v9_175)] → W p l e rmX8_fire s m ([.ref a_m, .int v1, .int v2] : List Value).toArray below meth c H locs 0 0 Q (F0 m 175 ls [.int s0_175]) := by
        intro v3_175 v7_175 v9_175 s0_175 hf H locs ls hPD hS hl
        obtain ⟨hP, hD⟩ := hPD
        unfold f_X8_fire_J175 at hf
        refine lv_istore (lv' := [(4, .int s0_175), (0, .ref a_m), (1, .int v1), (2, .int v2), (3, .int v3_175), (5, .int v5_35), (6, .int v6_35), (7, .int v7_175), (9, .int v9_175)]) hx hb dX8_fire_175 hl (by decide) rfl (fun ls hl => ?_)
        refine lv_iload hx hb dX8_fire_177 (lv_at hl 8 rfl) ?_
        refine lv_if_eq (tgt := 187) hx hb dX8_fire_179 (by decide) (fun hc1 => ?_) (fun hc1 => ?_)
        · have hf := if_t hf hc1
          refine lv_iload hx hb dX8_fire_187 (lv_at hl 5 rfl) ?_
          refine lv_istore (lv' := [(5, .int v5_35), (4, .int s0_175), (0, .ref a_m), (1, .int v1), (2, .int v2), (3, .int v3_175), (6, .int v6_35), (7, .int v7_175), (9, .int v9_175)]) hx hb dX8_fire_189 hl (by decide) rfl (fun ls hl => ?_)
          refine lv_iinc (v := (v6_35 + 1)) (lv' := [(6, .int (v6_35 + 1)), (5, .int v5_35), (4, .int s0_175), (0, .ref a_m), (1, .int v1), (2, .int v2), (3, .int v3_175), (7, .int v7_175), (9, .int v9_175)]) hx hb dX8_fire_191 hl (k := 6) rfl (ii_p1 _) (by decide) rfl (fun ls hl => ?_)
          refine lv_goto (tgt := 35) hx hb dX8_fire_194 (by decide) ?_
          exact ih35 v3_175 s0_175 v5_35 (v6_35 + 1) hf _ _ _ ⟨hP, hD⟩ hS (lv_sub hl [3, 4, 5, 6, 2, 1, 0] rfl)
        · have hf := if_f hf hc1
          refine lv_iload hx hb dX8_fire_182 (lv_at hl 7 rfl) ?_
          refine lv_goto (tgt := 189) hx hb dX8_fire_184 (by decide) ?_
          refine lv_istore (lv' := [(5, .int v7_175), (4, .int s0_175), (0, .ref a_m), (1, .int v1), (2, .int v2), (3, .int v3_175), (6, .int v6_35), (7, .int v7_175), (9, .int v9_175)]) hx hb dX8_fire_189 hl (by decide) rfl (fun ls hl => ?_)
          refine lv_iinc (v := (v6_35 + 1)) (lv' := [(6, .int (v6_35 + 1)), (5, .int v7_175), (4, .int s0_175), (0, .ref a_m), (1, .int v1), (2, .int v2), (3, .int v3_175), (7, .int v7_175), (9, .int v9_175)]) hx hb dX8_fire_191 hl (k := 6) rfl (ii_p1 _) (by decide) rfl (fun ls hl => ?_)
          refine lv_goto (tgt := 35) hx hb dX8_fire_194 (by decide) ?_
          exact ih35 v3_175 s0_175 v7_175 (v6_35 + 1) hf _ _ _ ⟨hP, hD⟩ hS (lv_sub hl [3, 4, 5, 6, 2, 1, 0] rfl)
      have J162 : ∀ (v7_162 : Int32) (v8_162 : Int32) (v9_162 : Int32) (s0_162 : Int32), f_X8_fire_J162 v4_35 v5_35 v6_35 (f_X8_fire_L35 m_told m_s v1 v2 n35) v7_162 v8_162 v9_162 s0_162 = some out → ∀ (H : Heap) (locs : List Loc) (ls : Array Slot), PD D A [(a_m, .inr (8, [.long m_trace, .ref a_m_text, .int m_typed, .ref a_m_told, .ref a_m_draft, .ref a_m_s, .ref a_m_past, .int m_known, .ref a_m_images, .ref a_m_kept, .ref a_m_notes, .ref a_m_noted, .int m_many, .int m_at, .int m_sort, .int m_start, .int m_value, .ref a_m_held, .ref a_m_few])), (a_m_told, .inl (cI, 33, .inl m_told)), (a_m_s, .inl (cI, 51, .inl m_s))] H → va_S A s.heap H locs → lv_has ls 10 [(0, .ref a_m), (1, .int v1), (2, .int v2), (4, .int v4_35), (5, .int v5_35), (6, .int v6_35), (7, .int v7_162), (8, .int v8_162), (9, .int v9_162)] → W p l e rmX8_fire s m ([.ref a_m, .int v1, .int v2] : List Value).toArray below meth c H locs 0 0 Q (F0 m 162 ls [.int s0_162]) := by
        intro v7_162 v8_162 v9_162 s0_162 hf H locs ls hPD hS hl
        obtain ⟨hP, hD⟩ := hPD
        unfold f_X8_fire_J162 at hf
        refine lv_istore_n (lv' := [(3, .int s0_162), (0, .ref a_m), (1, .int v1), (2, .int v2), (4, .int v4_35), (5, .int v5_35), (6, .int v6_35), (7, .int v7_162), (8, .int v8_162), (9, .int v9_162)]) hx hb dX8_fire_162 rfl hl (by decide) rfl (fun ls hl => ?_)
        refine lv_iload hx hb dX8_fire_163 (lv_at hl 9 rfl) ?_
        refine lv_if_eq (tgt := 173) hx hb dX8_fire_165 (by decide) (fun hc2 => ?_) (fun hc2 => ?_)
        · have hf := if_t hf hc2
          refine lv_iload hx hb dX8_fire_173 (lv_at hl 4 rfl) ?_
          exact J175 s0_162 v7_162 v9_162 v4_35 hf _ _ _ ⟨hP, hD⟩ hS (lv_sub hl [1, 2, 3, 0, 5, 6, 7, 9] rfl)
        · have hf := if_f hf hc2
          refine lv_iload hx hb dX8_fire_168 (lv_at hl 8 rfl) ?_
          refine lv_goto (tgt := 175) hx hb dX8_fire_170 (by decide) ?_
          exact J175 s0_162 v7_162 v9_162 v8_162 hf _ _ _ ⟨hP, hD⟩ hS (lv_sub hl [1, 2, 3, 0, 5, 6, 7, 9] rfl)
      have J149 : ∀ (v7_149 : Int32) (v8_149 : Int32) (s0_149 : Int32), f_X8_fire_J149 v3_35 v4_35 v5_35 v6_35 (f_X8_fire_L35 m_told m_s v1 v2 n35) v7_149 v8_149 s0_149 = some out → ∀ (H : Heap) (locs : List Loc) (ls : Array Slot), PD D A [(a_m, .inr (8, [.long m_trace, .ref a_m_text, .int m_typed, .ref a_m_told, .ref a_m_draft, .ref a_m_s, .ref a_m_past, .int m_known, .ref a_m_images, .ref a_m_kept, .ref a_m_notes, .ref a_m_noted, .int m_many, .int m_at, .int m_sort, .int m_start, .int m_value, .ref a_m_held, .ref a_m_few])), (a_m_told, .inl (cI, 33, .inl m_told)), (a_m_s, .inl (cI, 51, .inl m_s))] H → va_S A s.heap H locs → lv_has ls 10 [(0, .ref a_m), (1, .int v1), (2, .int v2), (3, .int v3_35), (4, .int v4_35), (5, .int v5_35), (6, .int v6_35), (7, .int v7_149), (8, .int v8_149)] → W p l e rmX8_fire s m ([.ref a_m, .int v1, .int v2] : List Value).toArray below meth c H locs 0 0 Q (F0 m 149 ls [.int s0_149]) := by
        intro v7_149 v8_149 s0_149 hf H locs ls hPD hS hl
        obtain ⟨hP, hD⟩ := hPD
        unfold f_X8_fire_J149 at hf
        refine lv_istore (lv' := [(9, .int s0_149), (0, .ref a_m), (1, .int v1), (2, .int v2), (3, .int v3_35), (4, .int v4_35), (5, .int v5_35), (6, .int v6_35), (7, .int v7_149), (8, .int v8_149)]) hx hb dX8_fire_149 hl (by decide) rfl (fun ls hl => ?_)
        refine lv_iload hx hb dX8_fire_151 (lv_at hl 0 rfl) ?_
        refine lv_if_eq (tgt := 161) hx hb dX8_fire_153 (by decide) (fun hc3 => ?_) (fun hc3 => ?_)
        · have hf := if_t hf hc3
          refine lv_iload_n hx hb dX8_fire_161 rfl (lv_at hl 4 rfl) ?_
          exact J162 v7_149 v8_149 s0_149 v3_35 hf _ _ _ ⟨hP, hD⟩ hS (lv_sub hl [1, 2, 3, 5, 6, 7, 8, 9, 0] rfl)
        · have hf := if_f hf hc3
          refine lv_iload hx hb dX8_fire_156 (lv_at hl 7 rfl) ?_
          refine lv_goto (tgt := 162) hx hb dX8_fire_158 (by decide) ?_
          exact J162 v7_149 v8_149 s0_149 v6_35 hf _ _ _ ⟨hP, hD⟩ hS (lv_sub hl [1, 2, 3, 5, 6, 7, 8, 9, 0] rfl)
      have J97 : ∀ (v7_97 : Int32), f_X8_fire_J97 m_told m_s v3_35 v4_35 v5_35 v6_35 v1 (f_X8_fire_L35 m_told m_s v1 v2 n35) v7_97 = some out → ∀ (H : Heap) (locs : List Loc) (ls : Array Slot), PD D A [(a_m, .inr (8, [.long m_trace, .ref a_m_text, .int m_typed, .ref a_m_told, .ref a_m_draft, .ref a_m_s, .ref a_m_past, .int m_known, .ref a_m_images, .ref a_m_kept, .ref a_m_notes, .ref a_m_noted, .int m_many, .int m_at, .int m_sort, .int m_start, .int m_value, .ref a_m_held, .ref a_m_few])), (a_m_told, .inl (cI, 33, .inl m_told)), (a_m_s, .inl (cI, 51, .inl m_s))] H → va_S A s.heap H locs → lv_has ls 10 [(0, .ref a_m), (1, .int v1), (2, .int v2), (3, .int v3_35), (4, .int v4_35), (5, .int v5_35), (6, .int v6_35), (7, .int v7_97)] → W p l e rmX8_fire s m ([.ref a_m, .int v1, .int v2] : List Value).toArray below meth c H locs 0 0 Q (F0 m 97 ls []) := by
        intro v7_97 hf H locs ls hPD hS hl
        obtain ⟨hP, hD⟩ := hPD
        unfold f_X8_fire_J97 at hf
        refine lv_aload_n hx hb dX8_fire_97 rfl (lv_at hl 0 rfl) ?_
        obtain ⟨u1, hu1, hf⟩ := bd_some hf
        refine cl_iV (As := []) (rest := []) ⟨hx, hb, hml, hown, hts⟩ (c_X8_allRead l D cI cZ cR a_m a_m_told a_m_s a_m_text a_m_draft a_m_past a_m_images a_m_kept a_m_notes a_m_noted a_m_held a_m_few m_trace m_typed m_known m_many m_at m_sort m_start m_value m_told m_s  u1 hu1) (cw_X8_fire_X8_allRead_111 hts) hE hP hD hS hA [0, 1, 2] rfl rfl [a_m, a_m_told, a_m_s] rfl rfl 0 8 rfl rfl rfl hl.1 rfl (Nat.le_of_ble_eq_true rfl) dX8_fire_98 ⟨Nat.zero_le _, Nat.zero_le _⟩ (fun H locs hP hD hS => ?_)
        have hPD : PD D A [(a_m, .inr (8, [.long m_trace, .ref a_m_text, .int m_typed, .ref a_m_told, .ref a_m_draft, .ref a_m_s, .ref a_m_past, .int m_known, .ref a_m_images, .ref a_m_kept, .ref a_m_notes, .ref a_m_noted, .int m_many, .int m_at, .int m_sort, .int m_start, .int m_value, .ref a_m_held, .ref a_m_few])), (a_m_told, .inl (cI, 33, .inl m_told)), (a_m_s, .inl (cI, 51, .inl m_s))] H := ⟨hP, hD⟩
        obtain ⟨hP, hD⟩ := hPD
        refine lv_iload hx hb dX8_fire_101 (lv_at hl 6 rfl) ?_
        refine lv_iconst (v := (-1)) hx hb dX8_fire_103 (by decide) ?_
        refine lv_ixor hx hb dX8_fire_104 ?_
        refine lv_iand hx hb dX8_fire_105 ?_
        obtain ⟨u2, hu2, hf⟩ := bd_some hf
        refine cl_iS (As := [.int (u1 &&& (v6_35 ^^^ (-1)))]) (rest := []) ⟨hx, hb, hml, hown, hts⟩ (c_X8_ones l D cI cZ cR   (u1 &&& (v6_35 ^^^ (-1))) u2 hu2) (cw_X8_fire_X8_ones_136 hts) hE hP hD hS hA rfl hl.1 rfl (Nat.le_of_ble_eq_true rfl) dX8_fire_106 ⟨Nat.zero_le _, Nat.zero_le _⟩ (fun H locs hP hS => ?_)
        refine lv_istore (lv' := [(8, .int u2), (0, .ref a_m), (1, .int v1), (2, .int v2), (3, .int v3_35), (4, .int v4_35), (5, .int v5_35), (6, .int v6_35), (7, .int v7_97)]) hx hb dX8_fire_109 hl (by decide) rfl (fun ls hl => ?_)
        refine lv_iload hx hb dX8_fire_111 (lv_at hl 8 rfl) ?_
        refine lv_iload_n hx hb dX8_fire_113 rfl (lv_at hl 2 rfl) ?_
        refine lv_icmp_lt (tgt := 148) hx hb dX8_fire_114 (by decide) (fun hc4 => ?_) (fun hc4 => ?_)
        · have hf := if_t hf hc4
          refine lv_iconst (v := 0) hx hb dX8_fire_148 (by decide) ?_
          exact J149 v7_97 u2 0 hf _ _ _ ⟨hP, hD⟩ hS (lv_sub hl [1, 2, 3, 4, 5, 6, 7, 8, 0] rfl)
        · have hf := if_f hf hc4
          refine lv_iload_n hx hb dX8_fire_117 rfl (lv_at hl 4 rfl) ?_
          refine lv_bipush (v := (-9)) hx hb dX8_fire_118 (by decide) ?_
          refine lv_icmp_eq (tgt := 144) hx hb dX8_fire_120 (by decide) (fun hc5 => ?_) (fun hc5 => ?_)
          · have hf := if_t hf hc5
            refine lv_iconst (v := 1) hx hb dX8_fire_144 (by decide) ?_
            refine lv_goto (tgt := 149) hx hb dX8_fire_145 (by decide) ?_
            exact J149 v7_97 u2 1 hf _ _ _ ⟨hP, hD⟩ hS (lv_sub hl [1, 2, 3, 4, 5, 6, 7, 8, 0] rfl)
          · have hf := if_f hf hc5
            refine lv_iload hx hb dX8_fire_123 (lv_at hl 0 rfl) ?_
            refine lv_iload hx hb dX8_fire_125 (lv_at hl 5 rfl) ?_
            refine lv_icmp_gt (tgt := 144) hx hb dX8_fire_127 (by decide) (fun hc6 => ?_) (fun hc6 => ?_)
            · have hf := if_t hf hc6
              refine lv_iconst (v := 1) hx hb dX8_fire_144 (by decide) ?_
              refine lv_goto (tgt := 149) hx hb dX8_fire_145 (by decide) ?_
              exact J149 v7_97 u2 1 hf _ _ _ ⟨hP, hD⟩ hS (lv_sub hl [1, 2, 3, 4, 5, 6, 7, 8, 0] rfl)
            · have hf := if_f hf hc6
              refine lv_iload hx hb dX8_fire_130 (lv_at hl 0 rfl) ?_
              refine lv_iload hx hb dX8_fire_132 (lv_at hl 5 rfl) ?_
              refine lv_icmp_ne (tgt := 148) hx hb dX8_fire_134 (by decide) (fun hc7 => ?_) (fun hc7 => ?_)
              · have hf := if_f hf hc7
                refine lv_iconst (v := 0) hx hb dX8_fire_148 (by decide) ?_
                exact J149 v7_97 u2 0 hf _ _ _ ⟨hP, hD⟩ hS (lv_sub hl [1, 2, 3, 4, 5, 6, 7, 8, 0] rfl)
              · have hf := if_t hf hc7
                refine lv_iload hx hb dX8_fire_137 (lv_at hl 8 rfl) ?_
                refine lv_iload hx hb dX8_fire_139 (lv_at hl 6 rfl) ?_
                refine lv_icmp_ge (tgt := 148) hx hb dX8_fire_141 (by decide) (fun hc8 => ?_) (fun hc8 => ?_)
                · have hf := if_t hf hc8
                  refine lv_iconst (v := 0) hx hb dX8_fire_148 (by decide) ?_
                  exact J149 v7_97 u2 0 hf _ _ _ ⟨hP, hD⟩ hS (lv_sub hl [1, 2, 3, 4, 5, 6, 7, 8, 0] rfl)
                · have hf := if_f hf hc8
                  refine lv_iconst (v := 1) hx hb dX8_fire_144 (by decide) ?_
                  refine lv_goto (tgt := 149) hx hb dX8_fire_145 (by decide) ?_
                  exact J149 v7_97 u2 1 hf _ _ _ ⟨hP, hD⟩ hS (lv_sub hl [1, 2, 3, 4, 5, 6, 7, 8, 0] rfl)
      have L54 : ∀ (n54 : Nat) (v7_54 : Int32) (v8_54 : Int32), f_X8_fire_L54 m_told m_s v3_35 v4_35 v5_35 v6_35 v1 (f_X8_fire_L35 m_told m_s v1 v2 n35) n54 v7_54 v8_54 = some out → ∀ (H : Heap) (locs : List Loc) (ls : Array Slot), PD D A [(a_m, .inr (8, [.long m_trace, .ref a_m_text, .int m_typed, .ref a_m_told, .ref a_m_draft, .ref a_m_s, .ref a_m_past, .int m_known, .ref a_m_images, .ref a_m_kept, .ref a_m_notes, .ref a_m_noted, .int m_many, .int m_at, .int m_sort, .int m_start, .int m_value, .ref a_m_held, .ref a_m_few])), (a_m_told, .inl (cI, 33, .inl m_told)), (a_m_s, .inl (cI, 51, .inl m_s))] H → va_S A s.heap H locs → lv_has ls 10 [(0, .ref a_m), (1, .int v1), (2, .int v2), (3, .int v3_35), (4, .int v4_35), (5, .int v5_35), (6, .int v6_35), (7, .int v7_54), (8, .int v8_54)] → W p l e rmX8_fire s m ([.ref a_m, .int v1, .int v2] : List Value).toArray below meth c H locs 0 0 Q (F0 m 54 ls []) := by
        intro  n54
        induction n54 with
        | zero => intro v7_54 v8_54 hf; cases hf
        | succ n54 ih54 =>
          intro v7_54 v8_54 hf H locs ls hPD hS hl
          obtain ⟨hP, hD⟩ := hPD
          have hf : f_X8_fire_B54 m_told m_s v3_35 v4_35 v5_35 v6_35 v1 (f_X8_fire_L35 m_told m_s v1 v2 n35) (f_X8_fire_L54 m_told m_s v3_35 v4_35 v5_35 v6_35 v1 (f_X8_fire_L35 m_told m_s v1 v2 n35) n54) v7_54 v8_54 = some out := hf
          unfold f_X8_fire_B54 at hf
          refine lv_iload hx hb dX8_fire_54 (lv_at hl 8 rfl) ?_
          refine lv_aload_n hx hb dX8_fire_56 rfl (lv_at hl 0 rfl) ?_
          refine va_get (D := D) (ci := 8) (v := .ref a_m_told) (C := RX8) (T := TX8) (N := 19) hx hb hts hiX8_fire_8 hown hE.1 hP 0 rfl rfl 3 (by decide) fL13 (fun _ h9 => h9) rfl dX8_fire_57 ?_
          refine lv_iconst (v := 0) hx hb dX8_fire_60 (by decide) ?_
          obtain ⟨hc9, hf⟩ := ck_some hf
          refine va_iald hx hb hE.1 hP 1 0 rfl rfl (ix_in hc9) dX8_fire_61 ?_
          refine lv_icmp_ge (tgt := 97) hx hb dX8_fire_62 (by decide) (fun hc10 => ?_) (fun hc10 => ?_)
          · have hf := if_t hf hc10
            exact J97 v7_54 hf _ _ _ ⟨hP, hD⟩ hS (lv_sub hl [0, 1, 2, 3, 4, 5, 6, 7] rfl)
          · have hf := if_f hf hc10
            refine lv_iload hx hb dX8_fire_65 (lv_at hl 7 rfl) ?_
            refine lv_iload hx hb dX8_fire_67 (lv_at hl 6 rfl) ?_
            refine lv_iload hx hb dX8_fire_69 (lv_at hl 8 rfl) ?_
            refine lv_ishr hx hb dX8_fire_71 ?_
            refine lv_iconst (v := 1) hx hb dX8_fire_72 (by decide) ?_
            refine lv_iand hx hb dX8_fire_73 ?_
            refine lv_iconst (v := 1) hx hb dX8_fire_74 (by decide) ?_
            refine lv_icmp_ne (tgt := 87) hx hb dX8_fire_75 (by decide) (fun hc11 => ?_) (fun hc11 => ?_)
            · have hf := if_f hf hc11
              refine lv_iconst (v := 0) hx hb dX8_fire_87 (by decide) ?_
              refine lv_iadd hx hb dX8_fire_88 ?_
              refine lv_istore (lv' := [(7, .int (v7_54 + 0)), (0, .ref a_m), (1, .int v1), (2, .int v2), (3, .int v3_35), (4, .int v4_35), (5, .int v5_35), (6, .int v6_35), (8, .int v8_54)]) hx hb dX8_fire_89 hl (by decide) rfl (fun ls hl => ?_)
              refine lv_iinc (v := (v8_54 + 1)) (lv' := [(8, .int (v8_54 + 1)), (7, .int (v7_54 + 0)), (0, .ref a_m), (1, .int v1), (2, .int v2), (3, .int v3_35), (4, .int v4_35), (5, .int v5_35), (6, .int v6_35)]) hx hb dX8_fire_91 hl (k := 8) rfl (ii_p1 _) (by decide) rfl (fun ls hl => ?_)
              refine lv_goto (tgt := 54) hx hb dX8_fire_94 (by decide) ?_
              exact ih54 (v7_54 + 0) (v8_54 + 1) hf _ _ _ ⟨hP, hD⟩ hS (lv_sub hl [2, 3, 4, 5, 6, 7, 8, 1, 0] rfl)
            · have hf := if_t hf hc11
              refine lv_aload_n hx hb dX8_fire_78 rfl (lv_at hl 0 rfl) ?_
              refine lv_iload hx hb dX8_fire_79 (lv_at hl 8 rfl) ?_
              obtain ⟨u3, hu3, hf⟩ := bd_some hf
              refine cl_iV (As := [.int v8_54]) (rest := [.int v7_54]) ⟨hx, hb, hml, hown, hts⟩ (c_X8_full l D cI cZ cR a_m a_m_s a_m_text a_m_told a_m_draft a_m_past a_m_images a_m_kept a_m_notes a_m_noted a_m_held a_m_few m_trace m_typed m_known m_many m_at m_sort m_start m_value m_s v8_54 u3 hu3) (cw_X8_fire_X8_full_98 hts) hE hP hD hS hA [0, 2] rfl rfl [a_m, a_m_s] rfl rfl 0 8 rfl rfl rfl hl.1 rfl (Nat.le_of_ble_eq_true rfl) dX8_fire_81 ⟨Nat.zero_le _, Nat.zero_le _⟩ (fun H locs hP hD hS => ?_)
              have hPD : PD D A [(a_m, .inr (8, [.long m_trace, .ref a_m_text, .int m_typed, .ref a_m_told, .ref a_m_draft, .ref a_m_s, .ref a_m_past, .int m_known, .ref a_m_images, .ref a_m_kept, .ref a_m_notes, .ref a_m_noted, .int m_many, .int m_at, .int m_sort, .int m_start, .int m_value, .ref a_m_held, .ref a_m_few])), (a_m_told, .inl (cI, 33, .inl m_told)), (a_m_s, .inl (cI, 51, .inl m_s))] H := ⟨hP, hD⟩
              obtain ⟨hP, hD⟩ := hPD
              refine lv_goto (tgt := 88) hx hb dX8_fire_84 (by decide) ?_
              refine lv_iadd hx hb dX8_fire_88 ?_
              refine lv_istore (lv' := [(7, .int (v7_54 + u3)), (0, .ref a_m), (1, .int v1), (2, .int v2), (3, .int v3_35), (4, .int v4_35), (5, .int v5_35), (6, .int v6_35), (8, .int v8_54)]) hx hb dX8_fire_89 hl (by decide) rfl (fun ls hl => ?_)
              refine lv_iinc (v := (v8_54 + 1)) (lv' := [(8, .int (v8_54 + 1)), (7, .int (v7_54 + u3)), (0, .ref a_m), (1, .int v1), (2, .int v2), (3, .int v3_35), (4, .int v4_35), (5, .int v5_35), (6, .int v6_35)]) hx hb dX8_fire_91 hl (k := 8) rfl (ii_p1 _) (by decide) rfl (fun ls hl => ?_)
              refine lv_goto (tgt := 54) hx hb dX8_fire_94 (by decide) ?_
              exact ih54 (v7_54 + u3) (v8_54 + 1) hf _ _ _ ⟨hP, hD⟩ hS (lv_sub hl [2, 3, 4, 5, 6, 7, 8, 1, 0] rfl)
      refine lv_iload hx hb dX8_fire_35 (lv_at hl 6 rfl) ?_
      refine lv_iconst (v := 1) hx hb dX8_fire_37 (by decide) ?_
      refine lv_aload_n hx hb dX8_fire_38 rfl (lv_at hl 0 rfl) ?_
      refine va_get (D := D) (ci := 8) (v := .ref a_m_told) (C := RX8) (T := TX8) (N := 19) hx hb hts hiX8_fire_8 hown hE.1 hP 0 rfl rfl 3 (by decide) fL13 (fun _ h9 => h9) rfl dX8_fire_39 ?_
      refine lv_iconst (v := 0) hx hb dX8_fire_42 (by decide) ?_
      obtain ⟨hc12, hf⟩ := ck_some hf
      refine va_iald hx hb hE.1 hP 1 0 rfl rfl (ix_in hc12) dX8_fire_43 ?_
      refine lv_ishl hx hb dX8_fire_44 ?_
      refine lv_icmp_ge (tgt := 197) hx hb dX8_fire_45 (by decide) (fun hc13 => ?_) (fun hc13 => ?_)
      · have hf := if_t hf hc13
        refine lv_iload_n hx hb dX8_fire_197 rfl (lv_at hl 2 rfl) ?_
        refine lv_if_ne (tgt := 205) hx hb dX8_fire_198 (by decide) (fun hc14 => ?_) (fun hc14 => ?_)
        · have hf := if_f hf hc14
          refine lv_iload hx hb dX8_fire_205 (lv_at hl 4 rfl) ?_
          have he := Option.some.inj hf
          subst he
          exact hret _ _ _ _ dX8_fire_207 rfl hP hD hS
        · have hf := if_t hf hc14
          refine lv_iload_n hx hb dX8_fire_201 rfl (lv_at hl 3 rfl) ?_
          refine lv_goto (tgt := 207) hx hb dX8_fire_202 (by decide) ?_
          have he := Option.some.inj hf
          subst he
          exact hret _ _ _ _ dX8_fire_207 rfl hP hD hS
      · have hf := if_f hf hc13
        refine lv_iconst (v := 0) hx hb dX8_fire_48 (by decide) ?_
        refine lv_istore (lv' := [(7, .int 0), (0, .ref a_m), (1, .int v1), (2, .int v2), (3, .int v3_35), (4, .int v4_35), (5, .int v5_35), (6, .int v6_35)]) hx hb dX8_fire_49 hl (by decide) rfl (fun ls hl => ?_)
        refine lv_iconst (v := 0) hx hb dX8_fire_51 (by decide) ?_
        refine lv_istore (lv' := [(8, .int 0), (7, .int 0), (0, .ref a_m), (1, .int v1), (2, .int v2), (3, .int v3_35), (4, .int v4_35), (5, .int v5_35), (6, .int v6_35)]) hx hb dX8_fire_52 hl (by decide) rfl (fun ls hl => ?_)
        exact L54  FU 0 0 hf _ _ _ ⟨hP, hD⟩ hS (lv_sub hl [2, 3, 4, 5, 6, 7, 8, 1, 0] rfl)
  refine lv_iload_n hx hb dX8_fire_0 rfl (lv_at hl 1 rfl) ?_
  refine lv_iconst (v := 1) hx hb dX8_fire_1 (by decide) ?_
  refine lv_sipush (v := 400) hx hb dX8_fire_2 (by decide) ?_
  obtain ⟨u4, hu4, hf⟩ := bd_some hf
  refine cl_iS (As := [.int v1, .int 1, .int 400]) (rest := []) ⟨hx, hb, hml, hown, hts⟩ (c_X8_in l D cI cZ cR   v1 1 400 u4 hu4) (cw_X8_fire_X8_in_51 hts) hE hP hD hS hA rfl hl.1 rfl (Nat.le_of_ble_eq_true rfl) dX8_fire_5 ⟨Nat.zero_le _, Nat.zero_le _⟩ (fun H locs hP hS => ?_)
  refine lv_if_eq (tgt := 20) hx hb dX8_fire_8 (by decide) (fun hc15 => ?_) (fun hc15 => ?_)
  · have hf := if_t hf hc15
    refine lv_iconst (v := (-1)) hx hb dX8_fire_20 (by decide) ?_
    have he := Option.some.inj hf
    subst he
    exact hret _ _ _ _ dX8_fire_21 rfl hP hD hS
  · have hf := if_f hf hc15
    refine lv_iload_n hx hb dX8_fire_11 rfl (lv_at hl 2 rfl) ?_
    refine lv_iconst (v := 0) hx hb dX8_fire_12 (by decide) ?_
    refine lv_iconst (v := 1) hx hb dX8_fire_13 (by decide) ?_
    obtain ⟨u5, hu5, hf⟩ := bd_some hf
    refine cl_iS (As := [.int v2, .int 0, .int 1]) (rest := []) ⟨hx, hb, hml, hown, hts⟩ (c_X8_in l D cI cZ cR   v2 0 1 u5 hu5) (cw_X8_fire_X8_in_51 hts) hE hP hD hS hA rfl hl.1 rfl (Nat.le_of_ble_eq_true rfl) dX8_fire_14 ⟨Nat.zero_le _, Nat.zero_le _⟩ (fun H locs hP hS => ?_)
    refine lv_if_ne (tgt := 22) hx hb dX8_fire_17 (by decide) (fun hc16 => ?_) (fun hc16 => ?_)
    · have hf := if_f hf hc16
      refine lv_bipush (v := (-9)) hx hb dX8_fire_22 (by decide) ?_
      refine lv_istore_n (lv' := [(3, .int (-9)), (0, .ref a_m), (1, .int v1), (2, .int v2)]) hx hb dX8_fire_24 rfl hl (by decide) rfl (fun ls hl => ?_)
      refine lv_bipush (v := (-9)) hx hb dX8_fire_25 (by decide) ?_
      refine lv_istore (lv' := [(4, .int (-9)), (3, .int (-9)), (0, .ref a_m), (1, .int v1), (2, .int v2)]) hx hb dX8_fire_27 hl (by decide) rfl (fun ls hl => ?_)
      refine lv_iconst (v := 0) hx hb dX8_fire_29 (by decide) ?_
      refine lv_istore (lv' := [(5, .int 0), (4, .int (-9)), (3, .int (-9)), (0, .ref a_m), (1, .int v1), (2, .int v2)]) hx hb dX8_fire_30 hl (by decide) rfl (fun ls hl => ?_)
      refine lv_iconst (v := 0) hx hb dX8_fire_32 (by decide) ?_
      refine lv_istore (lv' := [(6, .int 0), (5, .int 0), (4, .int (-9)), (3, .int (-9)), (0, .ref a_m), (1, .int v1), (2, .int v2)]) hx hb dX8_fire_33 hl (by decide) rfl (fun ls hl => ?_)
      exact L35  FU (-9) (-9) 0 0 hf _ _ _ ⟨hP, hD⟩ hS (lv_sub hl [4, 5, 6, 3, 2, 1, 0] rfl)
    · have hf := if_t hf hc16
      refine lv_iconst (v := (-1)) hx hb dX8_fire_20 (by decide) ?_
      have he := Option.some.inj hf
      subst he
      exact hret _ _ _ _ dX8_fire_21 rfl hP hD hS
abbrev rmX8_spoil : Room := { frames := 2, cells := 0, slots := 0, locals := 44 }
theorem hiX8_spoil_8 : ∀ w ∈ wsX80, w ∈ wsX8_spoil := fun w h => (goodIn_r (big := wsX8_spoil) wsX80 [19, 20, 21, 22, 23, 24, 25, 26, 27, 28, 29, 30, 31, 32, 33, 34, 35, 36, 37] rfl (by decide +kernel) w h).1
theorem cw_X8_spoil_X8_isPan_104 {s : State} {args : Array Value} (hts : ∀ x ∈ wsX8_spoil, x.before args s = true) : CallW rmX8_spoil s args RX8 RX8 104 yX8_isPan cX8_isPan 2 (some .boolean) wsX8_isPan rmX8_isPan 0 0 1 := cwV 1 hts gX8_spoil_X8_isPan rfl rfl rfl (by decide +kernel) ⟨Nat.le_of_ble_eq_true rfl, Nat.le_of_ble_eq_true rfl⟩
theorem cw_X8_spoil_X8_isRead_101 {s : State} {args : Array Value} (hts : ∀ x ∈ wsX8_spoil, x.before args s = true) : CallW rmX8_spoil s args RX8 RX8 101 yX8_isRead cX8_isRead 2 (some .boolean) wsX8_isRead rmX8_isRead 0 0 1 := cwV 1 hts gX8_spoil_X8_isRead rfl rfl rfl (by decide +kernel) ⟨Nat.le_of_ble_eq_true rfl, Nat.le_of_ble_eq_true rfl⟩
set_option maxRecDepth 100000 in
set_option maxHeartbeats 4000000 in
theorem c_X8_spoil (l : Launch) (D : va_G) (cI cZ cR : ClassId) (a_m : Nat) (a_m_told : Nat) (a_m_s : Nat) (a_m_text : Nat) (a_m_draft : Nat) (a_m_past : Nat) (a_m_images : Nat) (a_m_kept : Nat) (a_m_notes : Nat) (a_m_noted : Nat) (a_m_held : Nat) (a_m_few : Nat) (m_trace : Int64) (m_typed : Int32) (m_known : Int32) (m_many : Int32) (m_at : Int32) (m_sort : Int32) (m_start : Int32) (m_value : Int32) (m_told : Nat → Int32) (m_s : Nat → Int32) (v1 : Int32) (out : Int32) (hf : f_X8_spoil m_told m_s v1 = some out) : Ci l yX8_spoil wsX8_spoil rmX8_spoil D cI cZ cR [.ref a_m, .int v1] [(a_m, .inr (8, [.long m_trace, .ref a_m_text, .int m_typed, .ref a_m_told, .ref a_m_draft, .ref a_m_s, .ref a_m_past, .int m_known, .ref a_m_images, .ref a_m_kept, .ref a_m_notes, .ref a_m_noted, .int m_many, .int m_at, .int m_sort, .int m_start, .int m_value, .ref a_m_held, .ref a_m_few])), (a_m_told, .inl (cI, 33, .inl m_told)), (a_m_s, .inl (cI, 51, .inl m_s))] out [(a_m, .inr (8, [.long m_trace, .ref a_m_text, .int m_typed, .ref a_m_told, .ref a_m_draft, .ref a_m_s, .ref a_m_past, .int m_known, .ref a_m_images, .ref a_m_kept, .ref a_m_notes, .ref a_m_noted, .int m_many, .int m_at, .int m_sort, .int m_start, .int m_value, .ref a_m_held, .ref a_m_few])), (a_m_told, .inl (cI, 33, .inl m_told)), (a_m_s, .inl (cI, 51, .inl m_s))] := by
  refine ent_i (cc := cX8_spoil) (maxL := 2) .int (by decide) rfl (Nat.le_of_ble_eq_true rfl) ?_
  intro p e s m below meth c A Q hx hb hml hown hts hE hA hP hD hS hret ls hl
  have hown : s.vm.findClass RX8 = some m.cls := hown
  have hl : lv_has ls 2 [(0, .ref a_m), (1, .int v1)] := hl
  have fL13 := hts (.fieldLink RX8 13 "RainShelvesModel" "told" "[I") (List.mem_of_getElem? (i := 2) rfl)
  have fL19 := hts (.fieldLink RX8 19 "RainShelvesModel" "s" "[I") (List.mem_of_getElem? (i := 1) rfl)
  unfold f_X8_spoil at hf
  refine lv_aload_n hx hb dX8_spoil_0 rfl (lv_at hl 0 rfl) ?_
  refine lv_iload_n hx hb dX8_spoil_1 rfl (lv_at hl 1 rfl) ?_
  obtain ⟨u1, hu1, hf⟩ := bd_some hf
  refine cl_iV (As := [.int v1]) (rest := []) ⟨hx, hb, hml, hown, hts⟩ (c_X8_isPan l D cI cZ cR a_m a_m_told a_m_text a_m_draft a_m_s a_m_past a_m_images a_m_kept a_m_notes a_m_noted a_m_held a_m_few m_trace m_typed m_known m_many m_at m_sort m_start m_value m_told v1 u1 hu1) (cw_X8_spoil_X8_isPan_104 hts) hE hP hD hS hA [0, 1] rfl rfl [a_m, a_m_told] rfl rfl 0 8 rfl rfl rfl hl.1 rfl (Nat.le_of_ble_eq_true rfl) dX8_spoil_2 ⟨Nat.zero_le _, Nat.zero_le _⟩ (fun H locs hP hD hS => ?_)
  have hPD : PD D A [(a_m, .inr (8, [.long m_trace, .ref a_m_text, .int m_typed, .ref a_m_told, .ref a_m_draft, .ref a_m_s, .ref a_m_past, .int m_known, .ref a_m_images, .ref a_m_kept, .ref a_m_notes, .ref a_m_noted, .int m_many, .int m_at, .int m_sort, .int m_start, .int m_value, .ref a_m_held, .ref a_m_few])), (a_m_told, .inl (cI, 33, .inl m_told)), (a_m_s, .inl (cI, 51, .inl m_s))] H := ⟨hP, hD⟩
  obtain ⟨hP, hD⟩ := hPD
  refine lv_if_ne (tgt := 12) hx hb dX8_spoil_5 (by decide) (fun hc1 => ?_) (fun hc1 => ?_)
  · have hf := if_f hf hc1
    refine lv_aload_n hx hb dX8_spoil_12 rfl (lv_at hl 0 rfl) ?_
    refine lv_iload_n hx hb dX8_spoil_13 rfl (lv_at hl 1 rfl) ?_
    obtain ⟨u2, hu2, hf⟩ := bd_some hf
    refine cl_iV (As := [.int v1]) (rest := []) ⟨hx, hb, hml, hown, hts⟩ (c_X8_isRead l D cI cZ cR a_m a_m_s a_m_told a_m_text a_m_draft a_m_past a_m_images a_m_kept a_m_notes a_m_noted a_m_held a_m_few m_trace m_typed m_known m_many m_at m_sort m_start m_value m_s m_told v1 u2 hu2) (cw_X8_spoil_X8_isRead_101 hts) hE hP hD hS hA [0, 2, 1] rfl rfl [a_m, a_m_s, a_m_told] rfl rfl 0 8 rfl rfl rfl hl.1 rfl (Nat.le_of_ble_eq_true rfl) dX8_spoil_14 ⟨Nat.zero_le _, Nat.zero_le _⟩ (fun H locs hP hD hS => ?_)
    have hPD : PD D A [(a_m, .inr (8, [.long m_trace, .ref a_m_text, .int m_typed, .ref a_m_told, .ref a_m_draft, .ref a_m_s, .ref a_m_past, .int m_known, .ref a_m_images, .ref a_m_kept, .ref a_m_notes, .ref a_m_noted, .int m_many, .int m_at, .int m_sort, .int m_start, .int m_value, .ref a_m_held, .ref a_m_few])), (a_m_told, .inl (cI, 33, .inl m_told)), (a_m_s, .inl (cI, 51, .inl m_s))] H := ⟨hP, hD⟩
    obtain ⟨hP, hD⟩ := hPD
    refine lv_if_eq (tgt := 41) hx hb dX8_spoil_17 (by decide) (fun hc2 => ?_) (fun hc2 => ?_)
    · have hf := if_t hf hc2
      refine lv_iconst (v := 0) hx hb dX8_spoil_41 (by decide) ?_
      have he := Option.some.inj hf
      subst he
      exact hret _ _ _ _ dX8_spoil_42 rfl hP hD hS
    · have hf := if_f hf hc2
      refine lv_aload_n hx hb dX8_spoil_20 rfl (lv_at hl 0 rfl) ?_
      refine va_get (D := D) (ci := 8) (v := .ref a_m_s) (C := RX8) (T := TX8) (N := 19) hx hb hts hiX8_spoil_8 hown hE.1 hP 0 rfl rfl 5 (by decide) fL19 (fun _ h9 => h9) rfl dX8_spoil_21 ?_
      refine lv_bipush (v := 8) hx hb dX8_spoil_24 (by decide) ?_
      refine lv_iload_n hx hb dX8_spoil_26 rfl (lv_at hl 1 rfl) ?_
      refine lv_imul hx hb dX8_spoil_27 ?_
      obtain ⟨hc3, hf⟩ := ck_some hf
      refine va_iald hx hb hE.1 hP 2 0 rfl rfl (ix_in hc3) dX8_spoil_28 ?_
      refine lv_aload_n hx hb dX8_spoil_29 rfl (lv_at hl 0 rfl) ?_
      refine va_get (D := D) (ci := 8) (v := .ref a_m_told) (C := RX8) (T := TX8) (N := 19) hx hb hts hiX8_spoil_8 hown hE.1 hP 0 rfl rfl 3 (by decide) fL13 (fun _ h9 => h9) rfl dX8_spoil_30 ?_
      refine lv_iconst (v := 1) hx hb dX8_spoil_33 (by decide) ?_
      obtain ⟨hc4, hf⟩ := ck_some hf
      refine va_iald hx hb hE.1 hP 1 0 rfl rfl (ix_in hc4) dX8_spoil_34 ?_
      refine lv_isub hx hb dX8_spoil_35 ?_
      refine lv_iconst (v := 1) hx hb dX8_spoil_36 (by decide) ?_
      refine lv_iadd hx hb dX8_spoil_37 ?_
      refine lv_goto (tgt := 42) hx hb dX8_spoil_38 (by decide) ?_
      have he := Option.some.inj hf
      subst he
      exact hret _ _ _ _ dX8_spoil_42 rfl hP hD hS
  · have hf := if_t hf hc1
    refine lv_iconst (v := (-1)) hx hb dX8_spoil_8 (by decide) ?_
    refine lv_goto (tgt := 42) hx hb dX8_spoil_9 (by decide) ?_
    have he := Option.some.inj hf
    subst he
    exact hret _ _ _ _ dX8_spoil_42 rfl hP hD hS
abbrev rmX8_mix : Room := { frames := 1, cells := 0, slots := 0, locals := 22 }
theorem hiX8_mix_8 : ∀ w ∈ wsX80, w ∈ wsX8_mix := fun w h => (goodIn_r (big := wsX8_mix) wsX80 [6, 7, 8, 9, 10, 11, 12, 13, 14, 15, 16, 17, 18, 19, 20, 21, 22, 23, 24] rfl (by decide +kernel) w h).1
theorem cw_X8_mix_X8_in_51 {s : State} {args : Array Value} (hts : ∀ x ∈ wsX8_mix, x.before args s = true) : CallB rmX8_mix s args RX8 51 yX8_in cX8_in 3 (some .boolean) wsX8_in rmX8_in 0 0 3 ∧ (Cond.static yX8_in).before args s = true := va_cwS 3 hts gX8_mix_X8_in rfl rfl rfl (by decide +kernel) ⟨Nat.le_of_ble_eq_true rfl, Nat.le_of_ble_eq_true rfl⟩
set_option maxRecDepth 100000 in
set_option maxHeartbeats 4000000 in
theorem c_X8_mix (l : Launch) (D : va_G) (cI cZ cR : ClassId) (a_m : Nat) (a_m_told : Nat) (a_m_text : Nat) (a_m_draft : Nat) (a_m_s : Nat) (a_m_past : Nat) (a_m_images : Nat) (a_m_kept : Nat) (a_m_notes : Nat) (a_m_noted : Nat) (a_m_held : Nat) (a_m_few : Nat) (m_trace : Int64) (m_typed : Int32) (m_known : Int32) (m_many : Int32) (m_at : Int32) (m_sort : Int32) (m_start : Int32) (m_value : Int32) (m_told : Nat → Int32) (v1 : Int32) (v2 : Int32) (v3 : Int32) (out : Int32) (hf : f_X8_mix m_told v1 v2 v3 = some out) : Ci l yX8_mix wsX8_mix rmX8_mix D cI cZ cR [.ref a_m, .int v1, .int v2, .int v3] [(a_m, .inr (8, [.long m_trace, .ref a_m_text, .int m_typed, .ref a_m_told, .ref a_m_draft, .ref a_m_s, .ref a_m_past, .int m_known, .ref a_m_images, .ref a_m_kept, .ref a_m_notes, .ref a_m_noted, .int m_many, .int m_at, .int m_sort, .int m_start, .int m_value, .ref a_m_held, .ref a_m_few])), (a_m_told, .inl (cI, 33, .inl m_told))] out [(a_m, .inr (8, [.long m_trace, .ref a_m_text, .int m_typed, .ref a_m_told, .ref a_m_draft, .ref a_m_s, .ref a_m_past, .int m_known, .ref a_m_images, .ref a_m_kept, .ref a_m_notes, .ref a_m_noted, .int m_many, .int m_at, .int m_sort, .int m_start, .int m_value, .ref a_m_held, .ref a_m_few])), (a_m_told, .inl (cI, 33, .inl m_told))] := by
  refine ent_i (cc := cX8_mix) (maxL := 10) .int (by decide) rfl (Nat.le_of_ble_eq_true rfl) ?_
  intro p e s m below meth c A Q hx hb hml hown hts hE hA hP hD hS hret ls hl
  have hown : s.vm.findClass RX8 = some m.cls := hown
  have hl : lv_has ls 10 [(0, .ref a_m), (1, .int v1), (2, .int v2), (3, .int v3)] := hl
  have fL13 := hts (.fieldLink RX8 13 "RainShelvesModel" "told" "[I") (List.mem_of_getElem? (i := 1) rfl)
  unfold f_X8_mix at hf
  have L49 : ∀ (n49 : Nat) (v4_49 : Int32) (v5_49 : Int32) (v6_49 : Int32), f_X8_mix_L49 m_told v1 v2 v3 n49 v4_49 v5_49 v6_49 = some out → ∀ (H : Heap) (locs : List Loc) (ls : Array Slot), PD D A [(a_m, .inr (8, [.long m_trace, .ref a_m_text, .int m_typed, .ref a_m_told, .ref a_m_draft, .ref a_m_s, .ref a_m_past, .int m_known, .ref a_m_images, .ref a_m_kept, .ref a_m_notes, .ref a_m_noted, .int m_many, .int m_at, .int m_sort, .int m_start, .int m_value, .ref a_m_held, .ref a_m_few])), (a_m_told, .inl (cI, 33, .inl m_told))] H → va_S A s.heap H locs → lv_has ls 10 [(0, .ref a_m), (1, .int v1), (2, .int v2), (3, .int v3), (4, .int v4_49), (5, .int v5_49), (6, .int v6_49)] → W p l e rmX8_mix s m ([.ref a_m, .int v1, .int v2, .int v3] : List Value).toArray below meth c H locs 0 0 Q (F0 m 49 ls []) := by
    intro  n49
    induction n49 with
    | zero => intro v4_49 v5_49 v6_49 hf; cases hf
    | succ n49 ih49 =>
      intro v4_49 v5_49 v6_49 hf H locs ls hPD hS hl
      obtain ⟨hP, hD⟩ := hPD
      have hf : f_X8_mix_B49 m_told v1 v2 v3 (f_X8_mix_L49 m_told v1 v2 v3 n49) v4_49 v5_49 v6_49 = some out := hf
      unfold f_X8_mix_B49 at hf
      have L64 : ∀ (n64 : Nat) (v4_64 : Int32) (v5_64 : Int32) (v7_64 : Int32), f_X8_mix_L64 m_told v6_49 v1 v2 (f_X8_mix_L49 m_told v1 v2 v3 n49) n64 v4_64 v5_64 v7_64 = some out → ∀ (H : Heap) (locs : List Loc) (ls : Array Slot), PD D A [(a_m, .inr (8, [.long m_trace, .ref a_m_text, .int m_typed, .ref a_m_told, .ref a_m_draft, .ref a_m_s, .ref a_m_past, .int m_known, .ref a_m_images, .ref a_m_kept, .ref a_m_notes, .ref a_m_noted, .int m_many, .int m_at, .int m_sort, .int m_start, .int m_value, .ref a_m_held, .ref a_m_few])), (a_m_told, .inl (cI, 33, .inl m_told))] H → va_S A s.heap H locs → lv_has ls 10 [(0, .ref a_m), (1, .int v1), (2, .int v2), (3, .int v3), (4, .int v4_64), (5, .int v5_64), (6, .int v6_49), (7, .int v7_64)] → W p l e rmX8_mix s m ([.ref a_m, .int v1, .int v2, .int v3] : List Value).toArray below meth c H locs 0 0 Q (F0 m 64 ls []) := by
        intro  n64
        induction n64 with
        | zero => intro v4_64 v5_64 v7_64 hf; cases hf
        | succ n64 ih64 =>
          intro v4_64 v5_64 v7_64 hf H locs ls hPD hS hl
          obtain ⟨hP, hD⟩ := hPD
          have hf : f_X8_mix_B64 m_told v6_49 v1 v2 (f_X8_mix_L49 m_told v1 v2 v3 n49) (f_X8_mix_L64 m_told v6_49 v1 v2 (f_X8_mix_L49 m_told v1 v2 v3 n49) n64) v4_64 v5_64 v7_64 = some out := hf
          unfold f_X8_mix_B64 at hf
          have L76 : ∀ (n76 : Nat) (v4_76 : Int32) (v5_76 : Int32) (v8_76 : Int32), f_X8_mix_L76 m_told v6_49 v7_64 v1 v2 (f_X8_mix_L64 m_told v6_49 v1 v2 (f_X8_mix_L49 m_told v1 v2 v3 n49) n64) n76 v4_76 v5_76 v8_76 = some out → ∀ (H : Heap) (locs : List Loc) (ls : Array Slot), PD D A [(a_m, .inr (8, [.long m_trace, .ref a_m_text, .int m_typed, .ref a_m_told, .ref a_m_draft, .ref a_m_s, .ref a_m_past, .int m_known, .ref a_m_images, .ref a_m_kept, .ref a_m_notes, .ref a_m_noted, .int m_many, .int m_at, .int m_sort, .int m_start, .int m_value, .ref a_m_held, .ref a_m_few])), (a_m_told, .inl (cI, 33, .inl m_told))] H → va_S A s.heap H locs → lv_has ls 10 [(0, .ref a_m), (1, .int v1), (2, .int v2), (3, .int v3), (4, .int v4_76), (5, .int v5_76), (6, .int v6_49), (7, .int v7_64), (8, .int v8_76)] → W p l e rmX8_mix s m ([.ref a_m, .int v1, .int v2, .int v3] : List Value).toArray below meth c H locs 0 0 Q (F0 m 76 ls []) := by
            intro  n76
            induction n76 with
            | zero => intro v4_76 v5_76 v8_76 hf; cases hf
            | succ n76 ih76 =>
              intro v4_76 v5_76 v8_76 hf H locs ls hPD hS hl
              obtain ⟨hP, hD⟩ := hPD
              have hf : f_X8_mix_B76 m_told v6_49 v7_64 v1 v2 (f_X8_mix_L64 m_told v6_49 v1 v2 (f_X8_mix_L49 m_told v1 v2 v3 n49) n64) (f_X8_mix_L76 m_told v6_49 v7_64 v1 v2 (f_X8_mix_L64 m_told v6_49 v1 v2 (f_X8_mix_L49 m_told v1 v2 v3 n49) n64) n76) v4_76 v5_76 v8_76 = some out := hf
              unfold f_X8_mix_B76 at hf
              have J152 : ∀ (v9_152 : Int32) (s0_152 : Int32) (s1_152 : Int32), f_X8_mix_J152 v6_49 v7_64 v5_76 v8_76 (f_X8_mix_L76 m_told v6_49 v7_64 v1 v2 (f_X8_mix_L64 m_told v6_49 v1 v2 (f_X8_mix_L49 m_told v1 v2 v3 n49) n64) n76) v9_152 s0_152 s1_152 = some out → ∀ (H : Heap) (locs : List Loc) (ls : Array Slot), PD D A [(a_m, .inr (8, [.long m_trace, .ref a_m_text, .int m_typed, .ref a_m_told, .ref a_m_draft, .ref a_m_s, .ref a_m_past, .int m_known, .ref a_m_images, .ref a_m_kept, .ref a_m_notes, .ref a_m_noted, .int m_many, .int m_at, .int m_sort, .int m_start, .int m_value, .ref a_m_held, .ref a_m_few])), (a_m_told, .inl (cI, 33, .inl m_told))] H → va_S A s.heap H locs → lv_has ls 10 [(0, .ref a_m), (1, .int v1), (2, .int v2), (3, .int v3), (5, .int v5_76), (6, .int v6_49), (7, .int v7_64), (8, .int v8_76), (9, .int v9_152)] → W p l e rmX8_mix s m ([.ref a_m, .int v1, .int v2, .int v3] : List Value).toArray below meth c H locs 0 0 Q (F0 m 152 ls [.int s1_152, .int s0_152]) := by
                intro v9_152 s0_152 s1_152 hf H locs ls hPD hS hl
                obtain ⟨hP, hD⟩ := hPD
                unfold f_X8_mix_J152 at hf
                refine lv_iadd hx hb dX8_mix_152 ?_
                refine lv_istore (lv' := [(4, .int (s0_152 + s1_152)), (0, .ref a_m), (1, .int v1), (2, .int v2), (3, .int v3), (5, .int v5_76), (6, .int v6_49), (7, .int v7_64), (8, .int v8_76), (9, .int v9_152)]) hx hb dX8_mix_153 hl (by decide) rfl (fun ls hl => ?_)
                refine lv_iload hx hb dX8_mix_155 (lv_at hl 9 rfl) ?_
                refine lv_if_eq (tgt := 178) hx hb dX8_mix_157 (by decide) (fun hc1 => ?_) (fun hc1 => ?_)
                · have hf := if_t hf hc1
                  refine lv_iload hx hb dX8_mix_178 (lv_at hl 5 rfl) ?_
                  refine lv_istore (lv' := [(5, .int v5_76), (4, .int (s0_152 + s1_152)), (0, .ref a_m), (1, .int v1), (2, .int v2), (3, .int v3), (6, .int v6_49), (7, .int v7_64), (8, .int v8_76), (9, .int v9_152)]) hx hb dX8_mix_180 hl (by decide) rfl (fun ls hl => ?_)
                  refine lv_iinc (v := (v8_76 + (-1))) (lv' := [(8, .int (v8_76 + (-1))), (5, .int v5_76), (4, .int (s0_152 + s1_152)), (0, .ref a_m), (1, .int v1), (2, .int v2), (3, .int v3), (6, .int v6_49), (7, .int v7_64), (9, .int v9_152)]) hx hb dX8_mix_182 hl (k := 8) rfl (ii_m1 _) (by decide) rfl (fun ls hl => ?_)
                  refine lv_goto (tgt := 76) hx hb dX8_mix_185 (by decide) ?_
                  exact ih76 (s0_152 + s1_152) v5_76 (v8_76 + (-1)) hf _ _ _ ⟨hP, hD⟩ hS (lv_sub hl [3, 4, 5, 6, 2, 1, 7, 8, 0] rfl)
                · have hf := if_f hf hc1
                  refine lv_sipush (v := 1000) hx hb dX8_mix_160 (by decide) ?_
                  refine lv_iload hx hb dX8_mix_163 (lv_at hl 6 rfl) ?_
                  refine lv_imul hx hb dX8_mix_165 ?_
                  refine lv_bipush (v := 100) hx hb dX8_mix_166 (by decide) ?_
                  refine lv_iload hx hb dX8_mix_168 (lv_at hl 7 rfl) ?_
                  refine lv_imul hx hb dX8_mix_170 ?_
                  refine lv_iadd hx hb dX8_mix_171 ?_
                  refine lv_iload hx hb dX8_mix_172 (lv_at hl 8 rfl) ?_
                  refine lv_iadd hx hb dX8_mix_174 ?_
                  refine lv_goto (tgt := 180) hx hb dX8_mix_175 (by decide) ?_
                  refine lv_istore (lv' := [(5, .int (((1000 * v6_49) + (100 * v7_64)) + v8_76)), (4, .int (s0_152 + s1_152)), (0, .ref a_m), (1, .int v1), (2, .int v2), (3, .int v3), (6, .int v6_49), (7, .int v7_64), (8, .int v8_76), (9, .int v9_152)]) hx hb dX8_mix_180 hl (by decide) rfl (fun ls hl => ?_)
                  refine lv_iinc (v := (v8_76 + (-1))) (lv' := [(8, .int (v8_76 + (-1))), (5, .int (((1000 * v6_49) + (100 * v7_64)) + v8_76)), (4, .int (s0_152 + s1_152)), (0, .ref a_m), (1, .int v1), (2, .int v2), (3, .int v3), (6, .int v6_49), (7, .int v7_64), (9, .int v9_152)]) hx hb dX8_mix_182 hl (k := 8) rfl (ii_m1 _) (by decide) rfl (fun ls hl => ?_)
                  refine lv_goto (tgt := 76) hx hb dX8_mix_185 (by decide) ?_
                  exact ih76 (s0_152 + s1_152) (((1000 * v6_49) + (100 * v7_64)) + v8_76) (v8_76 + (-1)) hf _ _ _ ⟨hP, hD⟩ hS (lv_sub hl [3, 4, 5, 6, 2, 1, 7, 8, 0] rfl)
              have J138 : ∀ (s0_138 : Int32), f_X8_mix_J138 v6_49 v7_64 v4_76 v5_76 v8_76 (f_X8_mix_L76 m_told v6_49 v7_64 v1 v2 (f_X8_mix_L64 m_told v6_49 v1 v2 (f_X8_mix_L49 m_told v1 v2 v3 n49) n64) n76) s0_138 = some out → ∀ (H : Heap) (locs : List Loc) (ls : Array Slot), PD D A [(a_m, .inr (8, [.long m_trace, .ref a_m_text, .int m_typed, .ref a_m_told, .ref a_m_draft, .ref a_m_s, .ref a_m_past, .int m_known, .ref a_m_images, .ref a_m_kept, .ref a_m_notes, .ref a_m_noted, .int m_many, .int m_at, .int m_sort, .int m_start, .int m_value, .ref a_m_held, .ref a_m_few])), (a_m_told, .inl (cI, 33, .inl m_told))] H → va_S A s.heap H locs → lv_has ls 10 [(0, .ref a_m), (1, .int v1), (2, .int v2), (3, .int v3), (4, .int v4_76), (5, .int v5_76), (6, .int v6_49), (7, .int v7_64), (8, .int v8_76)] → W p l e rmX8_mix s m ([.ref a_m, .int v1, .int v2, .int v3] : List Value).toArray below meth c H locs 0 0 Q (F0 m 138 ls [.int s0_138]) := by
                intro s0_138 hf H locs ls hPD hS hl
                obtain ⟨hP, hD⟩ := hPD
                unfold f_X8_mix_J138 at hf
                refine lv_istore (lv' := [(9, .int s0_138), (0, .ref a_m), (1, .int v1), (2, .int v2), (3, .int v3), (4, .int v4_76), (5, .int v5_76), (6, .int v6_49), (7, .int v7_64), (8, .int v8_76)]) hx hb dX8_mix_138 hl (by decide) rfl (fun ls hl => ?_)
                refine lv_iload hx hb dX8_mix_140 (lv_at hl 5 rfl) ?_
                refine lv_iload hx hb dX8_mix_142 (lv_at hl 0 rfl) ?_
                refine lv_if_eq (tgt := 151) hx hb dX8_mix_144 (by decide) (fun hc2 => ?_) (fun hc2 => ?_)
                · have hf := if_t hf hc2
                  refine lv_iconst (v := 0) hx hb dX8_mix_151 (by decide) ?_
                  exact J152 s0_138 v4_76 0 hf _ _ _ ⟨hP, hD⟩ hS (lv_sub hl [1, 2, 3, 4, 6, 7, 8, 9, 0] rfl)
                · have hf := if_f hf hc2
                  refine lv_iconst (v := 1) hx hb dX8_mix_147 (by decide) ?_
                  refine lv_goto (tgt := 152) hx hb dX8_mix_148 (by decide) ?_
                  exact J152 s0_138 v4_76 1 hf _ _ _ ⟨hP, hD⟩ hS (lv_sub hl [1, 2, 3, 4, 6, 7, 8, 9, 0] rfl)
              refine lv_iload hx hb dX8_mix_76 (lv_at hl 8 rfl) ?_
              refine lv_if_le (tgt := 188) hx hb dX8_mix_78 (by decide) (fun hc3 => ?_) (fun hc3 => ?_)
              · have hf := if_t hf hc3
                refine lv_iinc (v := (v7_64 + (-1))) (lv' := [(7, .int (v7_64 + (-1))), (0, .ref a_m), (1, .int v1), (2, .int v2), (3, .int v3), (4, .int v4_76), (5, .int v5_76), (6, .int v6_49), (8, .int v8_76)]) hx hb dX8_mix_188 hl (k := 7) rfl (ii_m1 _) (by decide) rfl (fun ls hl => ?_)
                refine lv_goto (tgt := 64) hx hb dX8_mix_191 (by decide) ?_
                exact ih64 v4_76 v5_76 (v7_64 + (-1)) hf _ _ _ ⟨hP, hD⟩ hS (lv_sub hl [1, 2, 3, 4, 5, 6, 7, 0] rfl)
              · have hf := if_f hf hc3
                refine lv_aload_n hx hb dX8_mix_81 rfl (lv_at hl 0 rfl) ?_
                refine va_get (D := D) (ci := 8) (v := .ref a_m_told) (C := RX8) (T := TX8) (N := 19) hx hb hts hiX8_mix_8 hown hE.1 hP 0 rfl rfl 3 (by decide) fL13 (fun _ h9 => h9) rfl dX8_mix_82 ?_
                refine lv_iconst (v := 5) hx hb dX8_mix_85 (by decide) ?_
                refine lv_iload hx hb dX8_mix_86 (lv_at hl 6 rfl) ?_
                refine lv_iadd hx hb dX8_mix_88 ?_
                obtain ⟨hc4, hf⟩ := ck_some hf
                refine va_iald hx hb hE.1 hP 1 0 rfl rfl (ix_in hc4) dX8_mix_89 ?_
                refine lv_aload_n hx hb dX8_mix_90 rfl (lv_at hl 0 rfl) ?_
                refine va_get (D := D) (ci := 8) (v := .ref a_m_told) (C := RX8) (T := TX8) (N := 19) hx hb hts hiX8_mix_8 hown hE.1 hP 0 rfl rfl 3 (by decide) fL13 (fun _ h9 => h9) rfl dX8_mix_91 ?_
                refine lv_iconst (v := 5) hx hb dX8_mix_94 (by decide) ?_
                refine lv_iload hx hb dX8_mix_95 (lv_at hl 7 rfl) ?_
                refine lv_iadd hx hb dX8_mix_97 ?_
                obtain ⟨hc5, hf⟩ := ck_some hf
                refine va_iald hx hb hE.1 hP 1 0 rfl rfl (ix_in hc5) dX8_mix_98 ?_
                refine lv_icmp_eq (tgt := 137) hx hb dX8_mix_99 (by decide) (fun hc6 => ?_) (fun hc6 => ?_)
                · have hf := if_t hf hc6
                  refine lv_iconst (v := 0) hx hb dX8_mix_137 (by decide) ?_
                  exact J138 0 hf _ _ _ ⟨hP, hD⟩ hS hl
                · have hf := if_f hf hc6
                  refine lv_iload hx hb dX8_mix_102 (lv_at hl 8 rfl) ?_
                  refine lv_aload_n hx hb dX8_mix_104 rfl (lv_at hl 0 rfl) ?_
                  refine va_get (D := D) (ci := 8) (v := .ref a_m_told) (C := RX8) (T := TX8) (N := 19) hx hb hts hiX8_mix_8 hown hE.1 hP 0 rfl rfl 3 (by decide) fL13 (fun _ h9 => h9) rfl dX8_mix_105 ?_
                  refine lv_iconst (v := 5) hx hb dX8_mix_108 (by decide) ?_
                  refine lv_iload hx hb dX8_mix_109 (lv_at hl 6 rfl) ?_
                  refine lv_iadd hx hb dX8_mix_111 ?_
                  obtain ⟨hc7, hf⟩ := ck_some hf
                  refine va_iald hx hb hE.1 hP 1 0 rfl rfl (ix_in hc7) dX8_mix_112 ?_
                  refine lv_imul hx hb dX8_mix_113 ?_
                  refine lv_iload_n hx hb dX8_mix_114 rfl (lv_at hl 1 rfl) ?_
                  refine lv_iload hx hb dX8_mix_115 (lv_at hl 8 rfl) ?_
                  refine lv_isub hx hb dX8_mix_117 ?_
                  refine lv_aload_n hx hb dX8_mix_118 rfl (lv_at hl 0 rfl) ?_
                  refine va_get (D := D) (ci := 8) (v := .ref a_m_told) (C := RX8) (T := TX8) (N := 19) hx hb hts hiX8_mix_8 hown hE.1 hP 0 rfl rfl 3 (by decide) fL13 (fun _ h9 => h9) rfl dX8_mix_119 ?_
                  refine lv_iconst (v := 5) hx hb dX8_mix_122 (by decide) ?_
                  refine lv_iload hx hb dX8_mix_123 (lv_at hl 7 rfl) ?_
                  refine lv_iadd hx hb dX8_mix_125 ?_
                  obtain ⟨hc8, hf⟩ := ck_some hf
                  refine va_iald hx hb hE.1 hP 1 0 rfl rfl (ix_in hc8) dX8_mix_126 ?_
                  refine lv_imul hx hb dX8_mix_127 ?_
                  refine lv_iadd hx hb dX8_mix_128 ?_
                  refine lv_iload_n hx hb dX8_mix_129 rfl (lv_at hl 2 rfl) ?_
                  refine lv_icmp_ne (tgt := 137) hx hb dX8_mix_130 (by decide) (fun hc9 => ?_) (fun hc9 => ?_)
                  · have hf := if_f hf hc9
                    refine lv_iconst (v := 0) hx hb dX8_mix_137 (by decide) ?_
                    exact J138 0 hf _ _ _ ⟨hP, hD⟩ hS hl
                  · have hf := if_t hf hc9
                    refine lv_iconst (v := 1) hx hb dX8_mix_133 (by decide) ?_
                    refine lv_goto (tgt := 138) hx hb dX8_mix_134 (by decide) ?_
                    exact J138 1 hf _ _ _ ⟨hP, hD⟩ hS hl
          refine lv_iload hx hb dX8_mix_64 (lv_at hl 7 rfl) ?_
          refine lv_iload hx hb dX8_mix_66 (lv_at hl 6 rfl) ?_
          refine lv_icmp_le (tgt := 194) hx hb dX8_mix_68 (by decide) (fun hc10 => ?_) (fun hc10 => ?_)
          · have hf := if_t hf hc10
            refine lv_iinc (v := (v6_49 + (-1))) (lv' := [(6, .int (v6_49 + (-1))), (0, .ref a_m), (1, .int v1), (2, .int v2), (3, .int v3), (4, .int v4_64), (5, .int v5_64), (7, .int v7_64)]) hx hb dX8_mix_194 hl (k := 6) rfl (ii_m1 _) (by decide) rfl (fun ls hl => ?_)
            refine lv_goto (tgt := 49) hx hb dX8_mix_197 (by decide) ?_
            exact ih49 v4_64 v5_64 (v6_49 + (-1)) hf _ _ _ ⟨hP, hD⟩ hS (lv_sub hl [1, 2, 3, 4, 5, 6, 0] rfl)
          · have hf := if_f hf hc10
            refine lv_iload_n hx hb dX8_mix_71 rfl (lv_at hl 1 rfl) ?_
            refine lv_iconst (v := 1) hx hb dX8_mix_72 (by decide) ?_
            refine lv_isub hx hb dX8_mix_73 ?_
            refine lv_istore (lv' := [(8, .int (v1 - 1)), (0, .ref a_m), (1, .int v1), (2, .int v2), (3, .int v3), (4, .int v4_64), (5, .int v5_64), (6, .int v6_49), (7, .int v7_64)]) hx hb dX8_mix_74 hl (by decide) rfl (fun ls hl => ?_)
            exact L76  FU v4_64 v5_64 (v1 - 1) hf _ _ _ ⟨hP, hD⟩ hS (lv_sub hl [1, 2, 3, 4, 5, 6, 7, 8, 0] rfl)
      refine lv_iload hx hb dX8_mix_49 (lv_at hl 6 rfl) ?_
      refine lv_if_lt (tgt := 200) hx hb dX8_mix_51 (by decide) (fun hc11 => ?_) (fun hc11 => ?_)
      · have hf := if_t hf hc11
        refine lv_iload_n hx hb dX8_mix_200 rfl (lv_at hl 3 rfl) ?_
        refine lv_if_ne (tgt := 209) hx hb dX8_mix_201 (by decide) (fun hc12 => ?_) (fun hc12 => ?_)
        · have hf := if_f hf hc12
          refine lv_iload hx hb dX8_mix_209 (lv_at hl 5 rfl) ?_
          have he := Option.some.inj hf
          subst he
          exact hret _ _ _ _ dX8_mix_211 rfl hP hD hS
        · have hf := if_t hf hc12
          refine lv_iload hx hb dX8_mix_204 (lv_at hl 4 rfl) ?_
          refine lv_goto (tgt := 211) hx hb dX8_mix_206 (by decide) ?_
          have he := Option.some.inj hf
          subst he
          exact hret _ _ _ _ dX8_mix_211 rfl hP hD hS
      · have hf := if_f hf hc11
        refine lv_aload_n hx hb dX8_mix_54 rfl (lv_at hl 0 rfl) ?_
        refine va_get (D := D) (ci := 8) (v := .ref a_m_told) (C := RX8) (T := TX8) (N := 19) hx hb hts hiX8_mix_8 hown hE.1 hP 0 rfl rfl 3 (by decide) fL13 (fun _ h9 => h9) rfl dX8_mix_55 ?_
        refine lv_iconst (v := 0) hx hb dX8_mix_58 (by decide) ?_
        obtain ⟨hc13, hf⟩ := ck_some hf
        refine va_iald hx hb hE.1 hP 1 0 rfl rfl (ix_in hc13) dX8_mix_59 ?_
        refine lv_iconst (v := 1) hx hb dX8_mix_60 (by decide) ?_
        refine lv_isub hx hb dX8_mix_61 ?_
        refine lv_istore (lv' := [(7, .int ((m_told (0 : Int32).toNatClampNeg) - 1)), (0, .ref a_m), (1, .int v1), (2, .int v2), (3, .int v3), (4, .int v4_49), (5, .int v5_49), (6, .int v6_49)]) hx hb dX8_mix_62 hl (by decide) rfl (fun ls hl => ?_)
        exact L64  FU v4_49 v5_49 ((m_told (0 : Int32).toNatClampNeg) - 1) hf _ _ _ ⟨hP, hD⟩ hS (lv_sub hl [1, 2, 3, 4, 5, 6, 7, 0] rfl)
  refine lv_iload_n hx hb dX8_mix_0 rfl (lv_at hl 1 rfl) ?_
  refine lv_iconst (v := 1) hx hb dX8_mix_1 (by decide) ?_
  refine lv_bipush (v := 60) hx hb dX8_mix_2 (by decide) ?_
  obtain ⟨u1, hu1, hf⟩ := bd_some hf
  refine cl_iS (As := [.int v1, .int 1, .int 60]) (rest := []) ⟨hx, hb, hml, hown, hts⟩ (c_X8_in l D cI cZ cR   v1 1 60 u1 hu1) (cw_X8_mix_X8_in_51 hts) hE hP hD hS hA rfl hl.1 rfl (Nat.le_of_ble_eq_true rfl) dX8_mix_4 ⟨Nat.zero_le _, Nat.zero_le _⟩ (fun H locs hP hS => ?_)
  refine lv_if_eq (tgt := 30) hx hb dX8_mix_7 (by decide) (fun hc14 => ?_) (fun hc14 => ?_)
  · have hf := if_t hf hc14
    refine lv_iconst (v := (-1)) hx hb dX8_mix_30 (by decide) ?_
    have he := Option.some.inj hf
    subst he
    exact hret _ _ _ _ dX8_mix_31 rfl hP hD hS
  · have hf := if_f hf hc14
    refine lv_iload_n hx hb dX8_mix_10 rfl (lv_at hl 2 rfl) ?_
    refine lv_iconst (v := 0) hx hb dX8_mix_11 (by decide) ?_
    refine lv_sipush (v := 5940) hx hb dX8_mix_12 (by decide) ?_
    obtain ⟨u2, hu2, hf⟩ := bd_some hf
    refine cl_iS (As := [.int v2, .int 0, .int 5940]) (rest := []) ⟨hx, hb, hml, hown, hts⟩ (c_X8_in l D cI cZ cR   v2 0 5940 u2 hu2) (cw_X8_mix_X8_in_51 hts) hE hP hD hS hA rfl hl.1 rfl (Nat.le_of_ble_eq_true rfl) dX8_mix_15 ⟨Nat.zero_le _, Nat.zero_le _⟩ (fun H locs hP hS => ?_)
    refine lv_if_eq (tgt := 30) hx hb dX8_mix_18 (by decide) (fun hc15 => ?_) (fun hc15 => ?_)
    · have hf := if_t hf hc15
      refine lv_iconst (v := (-1)) hx hb dX8_mix_30 (by decide) ?_
      have he := Option.some.inj hf
      subst he
      exact hret _ _ _ _ dX8_mix_31 rfl hP hD hS
    · have hf := if_f hf hc15
      refine lv_iload_n hx hb dX8_mix_21 rfl (lv_at hl 3 rfl) ?_
      refine lv_iconst (v := 0) hx hb dX8_mix_22 (by decide) ?_
      refine lv_iconst (v := 1) hx hb dX8_mix_23 (by decide) ?_
      obtain ⟨u3, hu3, hf⟩ := bd_some hf
      refine cl_iS (As := [.int v3, .int 0, .int 1]) (rest := []) ⟨hx, hb, hml, hown, hts⟩ (c_X8_in l D cI cZ cR   v3 0 1 u3 hu3) (cw_X8_mix_X8_in_51 hts) hE hP hD hS hA rfl hl.1 rfl (Nat.le_of_ble_eq_true rfl) dX8_mix_24 ⟨Nat.zero_le _, Nat.zero_le _⟩ (fun H locs hP hS => ?_)
      refine lv_if_ne (tgt := 32) hx hb dX8_mix_27 (by decide) (fun hc16 => ?_) (fun hc16 => ?_)
      · have hf := if_f hf hc16
        refine lv_iconst (v := 0) hx hb dX8_mix_32 (by decide) ?_
        refine lv_istore (lv' := [(4, .int 0), (0, .ref a_m), (1, .int v1), (2, .int v2), (3, .int v3)]) hx hb dX8_mix_33 hl (by decide) rfl (fun ls hl => ?_)
        refine lv_bipush (v := (-9)) hx hb dX8_mix_35 (by decide) ?_
        refine lv_istore (lv' := [(5, .int (-9)), (4, .int 0), (0, .ref a_m), (1, .int v1), (2, .int v2), (3, .int v3)]) hx hb dX8_mix_37 hl (by decide) rfl (fun ls hl => ?_)
        refine lv_aload_n hx hb dX8_mix_39 rfl (lv_at hl 2 rfl) ?_
        refine va_get (D := D) (ci := 8) (v := .ref a_m_told) (C := RX8) (T := TX8) (N := 19) hx hb hts hiX8_mix_8 hown hE.1 hP 0 rfl rfl 3 (by decide) fL13 (fun _ h9 => h9) rfl dX8_mix_40 ?_
        refine lv_iconst (v := 0) hx hb dX8_mix_43 (by decide) ?_
        obtain ⟨hc17, hf⟩ := ck_some hf
        refine va_iald hx hb hE.1 hP 1 0 rfl rfl (ix_in hc17) dX8_mix_44 ?_
        refine lv_iconst (v := 1) hx hb dX8_mix_45 (by decide) ?_
        refine lv_isub hx hb dX8_mix_46 ?_
        refine lv_istore (lv' := [(6, .int ((m_told (0 : Int32).toNatClampNeg) - 1)), (5, .int (-9)), (4, .int 0), (0, .ref a_m), (1, .int v1), (2, .int v2), (3, .int v3)]) hx hb dX8_mix_47 hl (by decide) rfl (fun ls hl => ?_)
        exact L49  FU 0 (-9) ((m_told (0 : Int32).toNatClampNeg) - 1) hf _ _ _ ⟨hP, hD⟩ hS (lv_sub hl [3, 4, 5, 6, 2, 1, 0] rfl)
      · have hf := if_t hf hc16
        refine lv_iconst (v := (-1)) hx hb dX8_mix_30 (by decide) ?_
        have he := Option.some.inj hf
        subst he
        exact hret _ _ _ _ dX8_mix_31 rfl hP hD hS
abbrev rmX8_levels : Room := { frames := 2, cells := 0, slots := 0, locals := 43 }
theorem hiX8_levels_8 : ∀ w ∈ wsX80, w ∈ wsX8_levels := fun w h => (goodIn_r (big := wsX8_levels) wsX80 [13, 14, 15, 16, 17, 18, 19, 20, 21, 22, 23, 24, 25, 26, 27, 28, 29, 30, 31] rfl (by decide +kernel) w h).1
theorem cw_X8_levels_X8_in_51 {s : State} {args : Array Value} (hts : ∀ x ∈ wsX8_levels, x.before args s = true) : CallB rmX8_levels s args RX8 51 yX8_in cX8_in 3 (some .boolean) wsX8_in rmX8_in 0 0 3 ∧ (Cond.static yX8_in).before args s = true := va_cwS 3 hts gX8_levels_X8_in rfl rfl rfl (by decide +kernel) ⟨Nat.le_of_ble_eq_true rfl, Nat.le_of_ble_eq_true rfl⟩
theorem cw_X8_levels_X8_isPan_104 {s : State} {args : Array Value} (hts : ∀ x ∈ wsX8_levels, x.before args s = true) : CallW rmX8_levels s args RX8 RX8 104 yX8_isPan cX8_isPan 2 (some .boolean) wsX8_isPan rmX8_isPan 0 0 1 := cwV 1 hts gX8_levels_X8_isPan rfl rfl rfl (by decide +kernel) ⟨Nat.le_of_ble_eq_true rfl, Nat.le_of_ble_eq_true rfl⟩
set_option maxRecDepth 100000 in
set_option maxHeartbeats 4000000 in
theorem c_X8_levels (l : Launch) (D : va_G) (cI cZ cR : ClassId) (a_m : Nat) (a_m_told : Nat) (a_m_notes : Nat) (a_m_noted : Nat) (a_m_text : Nat) (a_m_draft : Nat) (a_m_s : Nat) (a_m_past : Nat) (a_m_images : Nat) (a_m_kept : Nat) (a_m_held : Nat) (a_m_few : Nat) (m_trace : Int64) (m_typed : Int32) (m_known : Int32) (m_many : Int32) (m_at : Int32) (m_sort : Int32) (m_start : Int32) (m_value : Int32) (m_told : Nat → Int32) (m_notes : Nat → Int32) (m_noted : Nat → Int32) (v1 : Int32) (v2 : Int32) (v3 : Int32) (out : Int32 × Int32 × (Nat → Int32) × (Nat → Int32)) (hf : f_X8_levels m_many m_told m_notes m_noted v1 v2 v3 = some out) : Ci l yX8_levels wsX8_levels rmX8_levels D cI cZ cR [.ref a_m, .int v1, .int v2, .int v3] [(a_m, .inr (8, [.long m_trace, .ref a_m_text, .int m_typed, .ref a_m_told, .ref a_m_draft, .ref a_m_s, .ref a_m_past, .int m_known, .ref a_m_images, .ref a_m_kept, .ref a_m_notes, .ref a_m_noted, .int m_many, .int m_at, .int m_sort, .int m_start, .int m_value, .ref a_m_held, .ref a_m_few])), (a_m_told, .inl (cI, 33, .inl m_told)), (a_m_notes, .inl (cI, 5, .inl m_notes)), (a_m_noted, .inl (cI, 5, .inl m_noted))] out.1 [(a_m, .inr (8, [.long m_trace, .ref a_m_text, .int m_typed, .ref a_m_told, .ref a_m_draft, .ref a_m_s, .ref a_m_past, .int m_known, .ref a_m_images, .ref a_m_kept, .ref a_m_notes, .ref a_m_noted, .int out.2.1, .int m_at, .int m_sort, .int m_start, .int m_value, .ref a_m_held, .ref a_m_few])), (a_m_told, .inl (cI, 33, .inl m_told)), (a_m_notes, .inl (cI, 5, .inl out.2.2.1)), (a_m_noted, .inl (cI, 5, .inl out.2.2.2))] := by
  refine ent_i (cc := cX8_levels) (maxL := 4) .int (by decide) rfl (Nat.le_of_ble_eq_true rfl) ?_
  intro p e s m below meth c A Q hx hb hml hown hts hE hA hP hD hS hret ls hl
  have hown : s.vm.findClass RX8 = some m.cls := hown
  have hl : lv_has ls 4 [(0, .ref a_m), (1, .int v1), (2, .int v2), (3, .int v3)] := hl
  have fL32 := hts (.fieldLink RX8 32 "RainShelvesModel" "notes" "[I") (List.mem_of_getElem? (i := 2) rfl)
  have fL35 := hts (.fieldLink RX8 35 "RainShelvesModel" "noted" "[I") (List.mem_of_getElem? (i := 3) rfl)
  have fL95 := hts (.fieldLink RX8 95 "RainShelvesModel" "many" "I") (List.mem_of_getElem? (i := 1) rfl)
  unfold f_X8_levels at hf
  refine lv_iload_n hx hb dX8_levels_0 rfl (lv_at hl 1 rfl) ?_
  refine lv_iconst (v := 0) hx hb dX8_levels_1 (by decide) ?_
  refine lv_bipush (v := 60) hx hb dX8_levels_2 (by decide) ?_
  obtain ⟨u1, hu1, hf⟩ := bd_some hf
  refine cl_iS (As := [.int v1, .int 0, .int 60]) (rest := []) ⟨hx, hb, hml, hown, hts⟩ (c_X8_in l D cI cZ cR   v1 0 60 u1 hu1) (cw_X8_levels_X8_in_51 hts) hE hP hD hS hA rfl hl.1 rfl (Nat.le_of_ble_eq_true rfl) dX8_levels_4 ⟨Nat.zero_le _, Nat.zero_le _⟩ (fun H locs hP hS => ?_)
  refine lv_if_eq (tgt := 29) hx hb dX8_levels_7 (by decide) (fun hc1 => ?_) (fun hc1 => ?_)
  · have hf := if_t hf hc1
    refine lv_iconst (v := (-1)) hx hb dX8_levels_29 (by decide) ?_
    have he := Option.some.inj hf
    subst he
    exact hret _ _ _ _ dX8_levels_30 rfl hP hD hS
  · have hf := if_f hf hc1
    refine lv_aload_n hx hb dX8_levels_10 rfl (lv_at hl 0 rfl) ?_
    refine lv_iload_n hx hb dX8_levels_11 rfl (lv_at hl 2 rfl) ?_
    obtain ⟨u2, hu2, hf⟩ := bd_some hf
    refine cl_iV (As := [.int v2]) (rest := []) ⟨hx, hb, hml, hown, hts⟩ (c_X8_isPan l D cI cZ cR a_m a_m_told a_m_text a_m_draft a_m_s a_m_past a_m_images a_m_kept a_m_notes a_m_noted a_m_held a_m_few m_trace m_typed m_known m_many m_at m_sort m_start m_value m_told v2 u2 hu2) (cw_X8_levels_X8_isPan_104 hts) hE hP hD hS hA [0, 1] rfl rfl [a_m, a_m_told] rfl rfl 0 8 rfl rfl rfl hl.1 rfl (Nat.le_of_ble_eq_true rfl) dX8_levels_12 ⟨Nat.zero_le _, Nat.zero_le _⟩ (fun H locs hP hD hS => ?_)
    have hPD : PD D A [(a_m, .inr (8, [.long m_trace, .ref a_m_text, .int m_typed, .ref a_m_told, .ref a_m_draft, .ref a_m_s, .ref a_m_past, .int m_known, .ref a_m_images, .ref a_m_kept, .ref a_m_notes, .ref a_m_noted, .int m_many, .int m_at, .int m_sort, .int m_start, .int m_value, .ref a_m_held, .ref a_m_few])), (a_m_told, .inl (cI, 33, .inl m_told)), (a_m_notes, .inl (cI, 5, .inl m_notes)), (a_m_noted, .inl (cI, 5, .inl m_noted))] H := ⟨hP, hD⟩
    obtain ⟨hP, hD⟩ := hPD
    refine lv_if_eq (tgt := 29) hx hb dX8_levels_15 (by decide) (fun hc2 => ?_) (fun hc2 => ?_)
    · have hf := if_t hf hc2
      refine lv_iconst (v := (-1)) hx hb dX8_levels_29 (by decide) ?_
      have he := Option.some.inj hf
      subst he
      exact hret _ _ _ _ dX8_levels_30 rfl hP hD hS
    · have hf := if_f hf hc2
      refine lv_iload_n hx hb dX8_levels_18 rfl (lv_at hl 3 rfl) ?_
      refine lv_iconst (v := 0) hx hb dX8_levels_19 (by decide) ?_
      refine lv_sipush (v := 420) hx hb dX8_levels_20 (by decide) ?_
      obtain ⟨u3, hu3, hf⟩ := bd_some hf
      refine cl_iS (As := [.int v3, .int 0, .int 420]) (rest := []) ⟨hx, hb, hml, hown, hts⟩ (c_X8_in l D cI cZ cR   v3 0 420 u3 hu3) (cw_X8_levels_X8_in_51 hts) hE hP hD hS hA rfl hl.1 rfl (Nat.le_of_ble_eq_true rfl) dX8_levels_23 ⟨Nat.zero_le _, Nat.zero_le _⟩ (fun H locs hP hS => ?_)
      refine lv_if_ne (tgt := 31) hx hb dX8_levels_26 (by decide) (fun hc3 => ?_) (fun hc3 => ?_)
      · have hf := if_f hf hc3
        refine lv_aload_n hx hb dX8_levels_31 rfl (lv_at hl 0 rfl) ?_
        refine va_get (D := D) (ci := 8) (v := .int m_many) (C := RX8) (T := TX8) (N := 19) hx hb hts hiX8_levels_8 hown hE.1 hP 0 rfl rfl 12 (by decide) fL95 (fun _ h9 => h9) rfl dX8_levels_32 ?_
        refine lv_iconst (v := 5) hx hb dX8_levels_35 (by decide) ?_
        refine lv_icmp_ne (tgt := 42) hx hb dX8_levels_36 (by decide) (fun hc4 => ?_) (fun hc4 => ?_)
        · have hf := if_f hf hc4
          refine lv_aload_n hx hb dX8_levels_42 rfl (lv_at hl 0 rfl) ?_
          refine va_get (D := D) (ci := 8) (v := .ref a_m_notes) (C := RX8) (T := TX8) (N := 19) hx hb hts hiX8_levels_8 hown hE.1 hP 0 rfl rfl 10 (by decide) fL32 (fun _ h9 => h9) rfl dX8_levels_43 ?_
          refine lv_aload_n hx hb dX8_levels_46 rfl (lv_at hl 0 rfl) ?_
          refine va_get (D := D) (ci := 8) (v := .int m_many) (C := RX8) (T := TX8) (N := 19) hx hb hts hiX8_levels_8 hown hE.1 hP 0 rfl rfl 12 (by decide) fL95 (fun _ h9 => h9) rfl dX8_levels_47 ?_
          refine lv_bipush (v := 10) hx hb dX8_levels_50 (by decide) ?_
          refine lv_iload_n hx hb dX8_levels_52 rfl (lv_at hl 1 rfl) ?_
          refine lv_imul hx hb dX8_levels_53 ?_
          refine lv_iload_n hx hb dX8_levels_54 rfl (lv_at hl 2 rfl) ?_
          refine lv_iadd hx hb dX8_levels_55 ?_
          obtain ⟨hc5, hf⟩ := ck_some hf
          refine va_iast hx hb hE.1 hP hD hS 2 0 rfl rfl (ix_in hc5) dX8_levels_56 (fun H locs hP hD hS => ?_)
          have hPD : PD D A [(a_m, .inr (8, [.long m_trace, .ref a_m_text, .int m_typed, .ref a_m_told, .ref a_m_draft, .ref a_m_s, .ref a_m_past, .int m_known, .ref a_m_images, .ref a_m_kept, .ref a_m_notes, .ref a_m_noted, .int m_many, .int m_at, .int m_sort, .int m_start, .int m_value, .ref a_m_held, .ref a_m_few])), (a_m_told, .inl (cI, 33, .inl m_told)), (a_m_notes, .inl (cI, 5, .inl (upd m_notes m_many.toNatClampNeg ((10 * v1) + v2)))), (a_m_noted, .inl (cI, 5, .inl m_noted))] H := ⟨hP, hD⟩
          obtain ⟨hP, hD⟩ := hPD
          refine lv_aload_n hx hb dX8_levels_57 rfl (lv_at hl 0 rfl) ?_
          refine va_get (D := D) (ci := 8) (v := .ref a_m_noted) (C := RX8) (T := TX8) (N := 19) hx hb hts hiX8_levels_8 hown hE.1 hP 0 rfl rfl 11 (by decide) fL35 (fun _ h9 => h9) rfl dX8_levels_58 ?_
          refine lv_aload_n hx hb dX8_levels_61 rfl (lv_at hl 0 rfl) ?_
          refine va_get (D := D) (ci := 8) (v := .int m_many) (C := RX8) (T := TX8) (N := 19) hx hb hts hiX8_levels_8 hown hE.1 hP 0 rfl rfl 12 (by decide) fL95 (fun _ h9 => h9) rfl dX8_levels_62 ?_
          refine lv_iload_n hx hb dX8_levels_65 rfl (lv_at hl 3 rfl) ?_
          obtain ⟨hc6, hf⟩ := ck_some hf
          refine va_iast hx hb hE.1 hP hD hS 3 0 rfl rfl (ix_in hc6) dX8_levels_66 (fun H locs hP hD hS => ?_)
          have hPD : PD D A [(a_m, .inr (8, [.long m_trace, .ref a_m_text, .int m_typed, .ref a_m_told, .ref a_m_draft, .ref a_m_s, .ref a_m_past, .int m_known, .ref a_m_images, .ref a_m_kept, .ref a_m_notes, .ref a_m_noted, .int m_many, .int m_at, .int m_sort, .int m_start, .int m_value, .ref a_m_held, .ref a_m_few])), (a_m_told, .inl (cI, 33, .inl m_told)), (a_m_notes, .inl (cI, 5, .inl (upd m_notes m_many.toNatClampNeg ((10 * v1) + v2)))), (a_m_noted, .inl (cI, 5, .inl (upd m_noted m_many.toNatClampNeg v3)))] H := ⟨hP, hD⟩
          obtain ⟨hP, hD⟩ := hPD
          refine lv_aload_n hx hb dX8_levels_67 rfl (lv_at hl 0 rfl) ?_
          refine lv_dup hx hb dX8_levels_68 rfl ?_
          refine va_get (D := D) (ci := 8) (v := .int m_many) (C := RX8) (T := TX8) (N := 19) hx hb hts hiX8_levels_8 hown hE.1 hP 0 rfl rfl 12 (by decide) fL95 (fun _ h9 => h9) rfl dX8_levels_69 ?_
          refine lv_iconst (v := 1) hx hb dX8_levels_72 (by decide) ?_
          refine lv_iadd hx hb dX8_levels_73 ?_
          refine va_put (D := D) (ci := 8) (v := .int (m_many + 1)) (ty := .int) (C := RX8) (T := TX8) (N := 19) hx hb hts hiX8_levels_8 tyX8 tyX8_ok nmX8 hown hE.1 hP hD hS 0 rfl rfl 12 (by decide) fL95 (fun _ h9 => h9) rfl (tyX8_ok 12 (by decide)) rfl rfl (Nat.le_of_ble_eq_true rfl) dX8_levels_74 (fun H locs hP hD hS => ?_)
          have hPD : PD D A [(a_m, .inr (8, [.long m_trace, .ref a_m_text, .int m_typed, .ref a_m_told, .ref a_m_draft, .ref a_m_s, .ref a_m_past, .int m_known, .ref a_m_images, .ref a_m_kept, .ref a_m_notes, .ref a_m_noted, .int (m_many + 1), .int m_at, .int m_sort, .int m_start, .int m_value, .ref a_m_held, .ref a_m_few])), (a_m_told, .inl (cI, 33, .inl m_told)), (a_m_notes, .inl (cI, 5, .inl (upd m_notes m_many.toNatClampNeg ((10 * v1) + v2)))), (a_m_noted, .inl (cI, 5, .inl (upd m_noted m_many.toNatClampNeg v3)))] H := ⟨hP, hD⟩
          obtain ⟨hP, hD⟩ := hPD
          refine lv_aload_n hx hb dX8_levels_77 rfl (lv_at hl 0 rfl) ?_
          refine va_get (D := D) (ci := 8) (v := .int (m_many + 1)) (C := RX8) (T := TX8) (N := 19) hx hb hts hiX8_levels_8 hown hE.1 hP 0 rfl rfl 12 (by decide) fL95 (fun _ h9 => h9) rfl dX8_levels_78 ?_
          have he := Option.some.inj hf
          subst he
          exact hret _ _ _ _ dX8_levels_81 rfl hP hD hS
        · have hf := if_t hf hc4
          refine lv_bipush (v := (-3)) hx hb dX8_levels_39 (by decide) ?_
          have he := Option.some.inj hf
          subst he
          exact hret _ _ _ _ dX8_levels_41 rfl hP hD hS
      · have hf := if_t hf hc3
        refine lv_iconst (v := (-1)) hx hb dX8_levels_29 (by decide) ?_
        have he := Option.some.inj hf
        subst he
        exact hret _ _ _ _ dX8_levels_30 rfl hP hD hS
abbrev rmX8_forget : Room := { frames := 0, cells := 0, slots := 0, locals := 0 }
theorem hiX8_forget_8 : ∀ w ∈ wsX80, w ∈ wsX8_forget := fun w h => (goodIn_r (big := wsX8_forget) wsX80 [2, 3, 4, 5, 6, 7, 8, 9, 10, 11, 12, 13, 14, 15, 16, 17, 18, 19, 20] rfl (by decide +kernel) w h).1
set_option maxRecDepth 100000 in
set_option maxHeartbeats 4000000 in
theorem c_X8_forget (l : Launch) (D : va_G) (cI cZ cR : ClassId) (a_m : Nat) (a_m_text : Nat) (a_m_told : Nat) (a_m_draft : Nat) (a_m_s : Nat) (a_m_past : Nat) (a_m_images : Nat) (a_m_kept : Nat) (a_m_notes : Nat) (a_m_noted : Nat) (a_m_held : Nat) (a_m_few : Nat) (m_trace : Int64) (m_typed : Int32) (m_known : Int32) (m_many : Int32) (m_at : Int32) (m_sort : Int32) (m_start : Int32) (m_value : Int32) (out : Int32 × Int32) (hf : f_X8_forget m_many = some out) : Ci l yX8_forget wsX8_forget rmX8_forget D cI cZ cR [.ref a_m] [(a_m, .inr (8, [.long m_trace, .ref a_m_text, .int m_typed, .ref a_m_told, .ref a_m_draft, .ref a_m_s, .ref a_m_past, .int m_known, .ref a_m_images, .ref a_m_kept, .ref a_m_notes, .ref a_m_noted, .int m_many, .int m_at, .int m_sort, .int m_start, .int m_value, .ref a_m_held, .ref a_m_few]))] out.1 [(a_m, .inr (8, [.long m_trace, .ref a_m_text, .int m_typed, .ref a_m_told, .ref a_m_draft, .ref a_m_s, .ref a_m_past, .int m_known, .ref a_m_images, .ref a_m_kept, .ref a_m_notes, .ref a_m_noted, .int out.2, .int m_at, .int m_sort, .int m_start, .int m_value, .ref a_m_held, .ref a_m_few]))] := by
  refine ent_i (cc := cX8_forget) (maxL := 2) .int (by decide) rfl (Nat.le_of_ble_eq_true rfl) ?_
  intro p e s m below meth c A Q hx hb hml hown hts hE hA hP hD hS hret ls hl
  have hown : s.vm.findClass RX8 = some m.cls := hown
  have hl : lv_has ls 2 [(0, .ref a_m)] := hl
  have fL95 := hts (.fieldLink RX8 95 "RainShelvesModel" "many" "I") (List.mem_of_getElem? (i := 1) rfl)
  unfold f_X8_forget at hf
  refine lv_aload_n hx hb dX8_forget_0 rfl (lv_at hl 0 rfl) ?_
  refine va_get (D := D) (ci := 8) (v := .int m_many) (C := RX8) (T := TX8) (N := 19) hx hb hts hiX8_forget_8 hown hE.1 hP 0 rfl rfl 12 (by decide) fL95 (fun _ h9 => h9) rfl dX8_forget_1 ?_
  refine lv_istore_n (lv' := [(1, .int m_many), (0, .ref a_m)]) hx hb dX8_forget_4 rfl hl (by decide) rfl (fun ls hl => ?_)
  refine lv_aload_n hx hb dX8_forget_5 rfl (lv_at hl 1 rfl) ?_
  refine lv_iconst (v := 0) hx hb dX8_forget_6 (by decide) ?_
  refine va_put (D := D) (ci := 8) (v := .int 0) (ty := .int) (C := RX8) (T := TX8) (N := 19) hx hb hts hiX8_forget_8 tyX8 tyX8_ok nmX8 hown hE.1 hP hD hS 0 rfl rfl 12 (by decide) fL95 (fun _ h9 => h9) rfl (tyX8_ok 12 (by decide)) rfl rfl (Nat.le_of_ble_eq_true rfl) dX8_forget_7 (fun H locs hP hD hS => ?_)
  have hPD : PD D A [(a_m, .inr (8, [.long m_trace, .ref a_m_text, .int m_typed, .ref a_m_told, .ref a_m_draft, .ref a_m_s, .ref a_m_past, .int m_known, .ref a_m_images, .ref a_m_kept, .ref a_m_notes, .ref a_m_noted, .int 0, .int m_at, .int m_sort, .int m_start, .int m_value, .ref a_m_held, .ref a_m_few]))] H := ⟨hP, hD⟩
  obtain ⟨hP, hD⟩ := hPD
  refine lv_iload_n hx hb dX8_forget_10 rfl (lv_at hl 0 rfl) ?_
  have he := Option.some.inj hf
  subst he
  exact hret _ _ _ _ dX8_forget_11 rfl hP hD hS
abbrev rmX8_isSo : Room := { frames := 1, cells := 0, slots := 0, locals := 23 }
theorem hiX8_isSo_8 : ∀ w ∈ wsX80, w ∈ wsX8_isSo := fun w h => (goodIn_r (big := wsX8_isSo) wsX80 [11, 12, 13, 14, 15, 16, 17, 18, 19, 20, 21, 22, 23, 24, 25, 26, 27, 28, 29] rfl (by decide +kernel) w h).1
theorem cw_X8_isSo_X8_full_98 {s : State} {args : Array Value} (hts : ∀ x ∈ wsX8_isSo, x.before args s = true) : CallW rmX8_isSo s args RX8 RX8 98 yX8_full cX8_full 4 (some .int) wsX8_full rmX8_full 0 0 1 := cwV 1 hts gX8_isSo_X8_full rfl rfl rfl (by decide +kernel) ⟨Nat.le_of_ble_eq_true rfl, Nat.le_of_ble_eq_true rfl⟩
set_option maxRecDepth 100000 in
set_option maxHeartbeats 4000000 in
theorem c_X8_isSo (l : Launch) (D : va_G) (cI cZ cR : ClassId) (a_m : Nat) (a_m_notes : Nat) (a_m_s : Nat) (a_m_told : Nat) (a_m_noted : Nat) (a_m_text : Nat) (a_m_draft : Nat) (a_m_past : Nat) (a_m_images : Nat) (a_m_kept : Nat) (a_m_held : Nat) (a_m_few : Nat) (m_trace : Int64) (m_typed : Int32) (m_known : Int32) (m_many : Int32) (m_at : Int32) (m_sort : Int32) (m_start : Int32) (m_value : Int32) (m_notes : Nat → Int32) (m_s : Nat → Int32) (m_told : Nat → Int32) (m_noted : Nat → Int32) (out : Int32) (hf : f_X8_isSo m_many m_notes m_s m_told m_noted = some out) : Ci l yX8_isSo wsX8_isSo rmX8_isSo D cI cZ cR [.ref a_m] [(a_m, .inr (8, [.long m_trace, .ref a_m_text, .int m_typed, .ref a_m_told, .ref a_m_draft, .ref a_m_s, .ref a_m_past, .int m_known, .ref a_m_images, .ref a_m_kept, .ref a_m_notes, .ref a_m_noted, .int m_many, .int m_at, .int m_sort, .int m_start, .int m_value, .ref a_m_held, .ref a_m_few])), (a_m_notes, .inl (cI, 5, .inl m_notes)), (a_m_s, .inl (cI, 51, .inl m_s)), (a_m_told, .inl (cI, 33, .inl m_told)), (a_m_noted, .inl (cI, 5, .inl m_noted))] out [(a_m, .inr (8, [.long m_trace, .ref a_m_text, .int m_typed, .ref a_m_told, .ref a_m_draft, .ref a_m_s, .ref a_m_past, .int m_known, .ref a_m_images, .ref a_m_kept, .ref a_m_notes, .ref a_m_noted, .int m_many, .int m_at, .int m_sort, .int m_start, .int m_value, .ref a_m_held, .ref a_m_few])), (a_m_notes, .inl (cI, 5, .inl m_notes)), (a_m_s, .inl (cI, 51, .inl m_s)), (a_m_told, .inl (cI, 33, .inl m_told)), (a_m_noted, .inl (cI, 5, .inl m_noted))] := by
  refine ent_i (cc := cX8_isSo) (maxL := 5) .boolean (by decide) rfl (Nat.le_of_ble_eq_true rfl) ?_
  intro p e s m below meth c A Q hx hb hml hown hts hE hA hP hD hS hret ls hl
  have hown : s.vm.findClass RX8 = some m.cls := hown
  have hl : lv_has ls 5 [(0, .ref a_m)] := hl
  have fL13 := hts (.fieldLink RX8 13 "RainShelvesModel" "told" "[I") (List.mem_of_getElem? (i := 3) rfl)
  have fL32 := hts (.fieldLink RX8 32 "RainShelvesModel" "notes" "[I") (List.mem_of_getElem? (i := 2) rfl)
  have fL35 := hts (.fieldLink RX8 35 "RainShelvesModel" "noted" "[I") (List.mem_of_getElem? (i := 4) rfl)
  have fL95 := hts (.fieldLink RX8 95 "RainShelvesModel" "many" "I") (List.mem_of_getElem? (i := 1) rfl)
  unfold f_X8_isSo at hf
  have L4 : ∀ (n4 : Nat) (v1_4 : Int32) (v2_4 : Int32), f_X8_isSo_L4 m_many m_notes m_s m_told m_noted n4 v1_4 v2_4 = some out → ∀ (H : Heap) (locs : List Loc) (ls : Array Slot), PD D A [(a_m, .inr (8, [.long m_trace, .ref a_m_text, .int m_typed, .ref a_m_told, .ref a_m_draft, .ref a_m_s, .ref a_m_past, .int m_known, .ref a_m_images, .ref a_m_kept, .ref a_m_notes, .ref a_m_noted, .int m_many, .int m_at, .int m_sort, .int m_start, .int m_value, .ref a_m_held, .ref a_m_few])), (a_m_notes, .inl (cI, 5, .inl m_notes)), (a_m_s, .inl (cI, 51, .inl m_s)), (a_m_told, .inl (cI, 33, .inl m_told)), (a_m_noted, .inl (cI, 5, .inl m_noted))] H → va_S A s.heap H locs → lv_has ls 5 [(0, .ref a_m), (1, .int v1_4), (2, .int v2_4)] → W p l e rmX8_isSo s m ([.ref a_m] : List Value).toArray below meth c H locs 0 0 Q (F0 m 4 ls []) := by
    intro  n4
    induction n4 with
    | zero => intro v1_4 v2_4 hf; cases hf
    | succ n4 ih4 =>
      intro v1_4 v2_4 hf H locs ls hPD hS hl
      obtain ⟨hP, hD⟩ := hPD
      have hf : f_X8_isSo_B4 m_many m_notes m_s m_told m_noted (f_X8_isSo_L4 m_many m_notes m_s m_told m_noted n4) v1_4 v2_4 = some out := hf
      unfold f_X8_isSo_B4 at hf
      have J64 : ∀ (s0_64 : Int32), f_X8_isSo_J64 m_noted v2_4 (f_X8_isSo_L4 m_many m_notes m_s m_told m_noted n4) s0_64 = some out → ∀ (H : Heap) (locs : List Loc) (ls : Array Slot), PD D A [(a_m, .inr (8, [.long m_trace, .ref a_m_text, .int m_typed, .ref a_m_told, .ref a_m_draft, .ref a_m_s, .ref a_m_past, .int m_known, .ref a_m_images, .ref a_m_kept, .ref a_m_notes, .ref a_m_noted, .int m_many, .int m_at, .int m_sort, .int m_start, .int m_value, .ref a_m_held, .ref a_m_few])), (a_m_notes, .inl (cI, 5, .inl m_notes)), (a_m_s, .inl (cI, 51, .inl m_s)), (a_m_told, .inl (cI, 33, .inl m_told)), (a_m_noted, .inl (cI, 5, .inl m_noted))] H → va_S A s.heap H locs → lv_has ls 5 [(0, .ref a_m), (2, .int v2_4)] → W p l e rmX8_isSo s m ([.ref a_m] : List Value).toArray below meth c H locs 0 0 Q (F0 m 64 ls [.int s0_64]) := by
        intro s0_64 hf H locs ls hPD hS hl
        obtain ⟨hP, hD⟩ := hPD
        unfold f_X8_isSo_J64 at hf
        refine lv_aload_n hx hb dX8_isSo_64 rfl (lv_at hl 0 rfl) ?_
        refine va_get (D := D) (ci := 8) (v := .ref a_m_noted) (C := RX8) (T := TX8) (N := 19) hx hb hts hiX8_isSo_8 hown hE.1 hP 0 rfl rfl 11 (by decide) fL35 (fun _ h9 => h9) rfl dX8_isSo_65 ?_
        refine lv_iload_n hx hb dX8_isSo_68 rfl (lv_at hl 1 rfl) ?_
        obtain ⟨hc1, hf⟩ := ck_some hf
        refine va_iald hx hb hE.1 hP 4 0 rfl rfl (ix_in hc1) dX8_isSo_69 ?_
        refine lv_icmp_ne (tgt := 77) hx hb dX8_isSo_70 (by decide) (fun hc2 => ?_) (fun hc2 => ?_)
        · have hf := if_f hf hc2
          refine lv_iconst (v := 0) hx hb dX8_isSo_77 (by decide) ?_
          refine lv_istore_n (lv' := [(1, .int 0), (0, .ref a_m), (2, .int v2_4)]) hx hb dX8_isSo_78 rfl hl (by decide) rfl (fun ls hl => ?_)
          refine lv_iinc (v := (v2_4 + 1)) (lv' := [(2, .int (v2_4 + 1)), (1, .int 0), (0, .ref a_m)]) hx hb dX8_isSo_79 hl (k := 2) rfl (ii_p1 _) (by decide) rfl (fun ls hl => ?_)
          refine lv_goto (tgt := 4) hx hb dX8_isSo_82 (by decide) ?_
          exact ih4 0 (v2_4 + 1) hf _ _ _ ⟨hP, hD⟩ hS (lv_sub hl [2, 1, 0] rfl)
        · have hf := if_t hf hc2
          refine lv_iconst (v := 1) hx hb dX8_isSo_73 (by decide) ?_
          refine lv_goto (tgt := 78) hx hb dX8_isSo_74 (by decide) ?_
          refine lv_istore_n (lv' := [(1, .int 1), (0, .ref a_m), (2, .int v2_4)]) hx hb dX8_isSo_78 rfl hl (by decide) rfl (fun ls hl => ?_)
          refine lv_iinc (v := (v2_4 + 1)) (lv' := [(2, .int (v2_4 + 1)), (1, .int 1), (0, .ref a_m)]) hx hb dX8_isSo_79 hl (k := 2) rfl (ii_p1 _) (by decide) rfl (fun ls hl => ?_)
          refine lv_goto (tgt := 4) hx hb dX8_isSo_82 (by decide) ?_
          exact ih4 1 (v2_4 + 1) hf _ _ _ ⟨hP, hD⟩ hS (lv_sub hl [2, 1, 0] rfl)
      refine lv_iload_n hx hb dX8_isSo_4 rfl (lv_at hl 2 rfl) ?_
      refine lv_aload_n hx hb dX8_isSo_5 rfl (lv_at hl 0 rfl) ?_
      refine va_get (D := D) (ci := 8) (v := .int m_many) (C := RX8) (T := TX8) (N := 19) hx hb hts hiX8_isSo_8 hown hE.1 hP 0 rfl rfl 12 (by decide) fL95 (fun _ h9 => h9) rfl dX8_isSo_6 ?_
      refine lv_icmp_ge (tgt := 85) hx hb dX8_isSo_9 (by decide) (fun hc3 => ?_) (fun hc3 => ?_)
      · have hf := if_t hf hc3
        refine lv_iload_n hx hb dX8_isSo_85 rfl (lv_at hl 1 rfl) ?_
        obtain ⟨hc4, hf⟩ := ck_some hf
        have he := Option.some.inj hf
        subst he
        exact hret _ _ _ _ dX8_isSo_86 (bo_nar hc4) hP hD hS
      · have hf := if_f hf hc3
        refine lv_aload_n hx hb dX8_isSo_12 rfl (lv_at hl 0 rfl) ?_
        refine va_get (D := D) (ci := 8) (v := .ref a_m_notes) (C := RX8) (T := TX8) (N := 19) hx hb hts hiX8_isSo_8 hown hE.1 hP 0 rfl rfl 10 (by decide) fL32 (fun _ h9 => h9) rfl dX8_isSo_13 ?_
        refine lv_iload_n hx hb dX8_isSo_16 rfl (lv_at hl 2 rfl) ?_
        obtain ⟨hc5, hf⟩ := ck_some hf
        refine va_iald hx hb hE.1 hP 1 0 rfl rfl (ix_in hc5) dX8_isSo_17 ?_
        refine lv_bipush (v := 10) hx hb dX8_isSo_18 (by decide) ?_
        obtain ⟨hc6, hf⟩ := ck_some hf
        refine lv_irem hx hb dX8_isSo_20 (nz_ne hc6) ?_
        refine lv_istore_n (lv' := [(3, .int ((m_notes v2_4.toNatClampNeg) - (m_notes v2_4.toNatClampNeg) / 10 * 10)), (0, .ref a_m), (1, .int v1_4), (2, .int v2_4)]) hx hb dX8_isSo_21 rfl hl (by decide) rfl (fun ls hl => ?_)
        refine lv_aload_n hx hb dX8_isSo_22 rfl (lv_at hl 1 rfl) ?_
        refine lv_iload_n hx hb dX8_isSo_23 rfl (lv_at hl 0 rfl) ?_
        obtain ⟨u1, hu1, hf⟩ := bd_some hf
        refine cl_iV (As := [.int ((m_notes v2_4.toNatClampNeg) - (m_notes v2_4.toNatClampNeg) / 10 * 10)]) (rest := []) ⟨hx, hb, hml, hown, hts⟩ (c_X8_full l D cI cZ cR a_m a_m_s a_m_text a_m_told a_m_draft a_m_past a_m_images a_m_kept a_m_notes a_m_noted a_m_held a_m_few m_trace m_typed m_known m_many m_at m_sort m_start m_value m_s ((m_notes v2_4.toNatClampNeg) - (m_notes v2_4.toNatClampNeg) / 10 * 10) u1 hu1) (cw_X8_isSo_X8_full_98 hts) hE hP hD hS hA [0, 2] rfl rfl [a_m, a_m_s] rfl rfl 0 8 rfl rfl rfl hl.1 rfl (Nat.le_of_ble_eq_true rfl) dX8_isSo_24 ⟨Nat.zero_le _, Nat.zero_le _⟩ (fun H locs hP hD hS => ?_)
        have hPD : PD D A [(a_m, .inr (8, [.long m_trace, .ref a_m_text, .int m_typed, .ref a_m_told, .ref a_m_draft, .ref a_m_s, .ref a_m_past, .int m_known, .ref a_m_images, .ref a_m_kept, .ref a_m_notes, .ref a_m_noted, .int m_many, .int m_at, .int m_sort, .int m_start, .int m_value, .ref a_m_held, .ref a_m_few])), (a_m_notes, .inl (cI, 5, .inl m_notes)), (a_m_s, .inl (cI, 51, .inl m_s)), (a_m_told, .inl (cI, 33, .inl m_told)), (a_m_noted, .inl (cI, 5, .inl m_noted))] H := ⟨hP, hD⟩
        obtain ⟨hP, hD⟩ := hPD
        refine lv_aload_n hx hb dX8_isSo_27 rfl (lv_at hl 1 rfl) ?_
        refine va_get (D := D) (ci := 8) (v := .ref a_m_notes) (C := RX8) (T := TX8) (N := 19) hx hb hts hiX8_isSo_8 hown hE.1 hP 0 rfl rfl 10 (by decide) fL32 (fun _ h9 => h9) rfl dX8_isSo_28 ?_
        refine lv_iload_n hx hb dX8_isSo_31 rfl (lv_at hl 3 rfl) ?_
        obtain ⟨hc7, hf⟩ := ck_some hf
        refine va_iald hx hb hE.1 hP 1 0 rfl rfl (ix_in hc7) dX8_isSo_32 ?_
        refine lv_bipush (v := 10) hx hb dX8_isSo_33 (by decide) ?_
        obtain ⟨hc8, hf⟩ := ck_some hf
        refine lv_idiv hx hb dX8_isSo_35 (nz_ne hc8) ?_
        refine lv_aload_n hx hb dX8_isSo_36 rfl (lv_at hl 1 rfl) ?_
        refine va_get (D := D) (ci := 8) (v := .ref a_m_told) (C := RX8) (T := TX8) (N := 19) hx hb hts hiX8_isSo_8 hown hE.1 hP 0 rfl rfl 3 (by decide) fL13 (fun _ h9 => h9) rfl dX8_isSo_37 ?_
        refine lv_bipush (v := 19) hx hb dX8_isSo_40 (by decide) ?_
        refine lv_iload_n hx hb dX8_isSo_42 rfl (lv_at hl 0 rfl) ?_
        refine lv_iadd hx hb dX8_isSo_43 ?_
        obtain ⟨hc9, hf⟩ := ck_some hf
        refine va_iald hx hb hE.1 hP 3 0 rfl rfl (ix_in hc9) dX8_isSo_44 ?_
        refine lv_imul hx hb dX8_isSo_45 ?_
        refine lv_isub hx hb dX8_isSo_46 ?_
        refine lv_istore (lv' := [(4, .int (u1 - (((m_notes v2_4.toNatClampNeg) / 10) * (m_told (19 + ((m_notes v2_4.toNatClampNeg) - (m_notes v2_4.toNatClampNeg) / 10 * 10)).toNatClampNeg)))), (3, .int ((m_notes v2_4.toNatClampNeg) - (m_notes v2_4.toNatClampNeg) / 10 * 10)), (0, .ref a_m), (1, .int v1_4), (2, .int v2_4)]) hx hb dX8_isSo_47 hl (by decide) rfl (fun ls hl => ?_)
        refine lv_iload_n hx hb dX8_isSo_49 rfl (lv_at hl 3 rfl) ?_
        refine lv_if_eq (tgt := 77) hx hb dX8_isSo_50 (by decide) (fun hc10 => ?_) (fun hc10 => ?_)
        · have hf := if_t hf hc10
          refine lv_iconst (v := 0) hx hb dX8_isSo_77 (by decide) ?_
          refine lv_istore_n (lv' := [(1, .int 0), (4, .int (u1 - (((m_notes v2_4.toNatClampNeg) / 10) * (m_told (19 + ((m_notes v2_4.toNatClampNeg) - (m_notes v2_4.toNatClampNeg) / 10 * 10)).toNatClampNeg)))), (3, .int ((m_notes v2_4.toNatClampNeg) - (m_notes v2_4.toNatClampNeg) / 10 * 10)), (0, .ref a_m), (2, .int v2_4)]) hx hb dX8_isSo_78 rfl hl (by decide) rfl (fun ls hl => ?_)
          refine lv_iinc (v := (v2_4 + 1)) (lv' := [(2, .int (v2_4 + 1)), (1, .int 0), (4, .int (u1 - (((m_notes v2_4.toNatClampNeg) / 10) * (m_told (19 + ((m_notes v2_4.toNatClampNeg) - (m_notes v2_4.toNatClampNeg) / 10 * 10)).toNatClampNeg)))), (3, .int ((m_notes v2_4.toNatClampNeg) - (m_notes v2_4.toNatClampNeg) / 10 * 10)), (0, .ref a_m)]) hx hb dX8_isSo_79 hl (k := 4) rfl (ii_p1 _) (by decide) rfl (fun ls hl => ?_)
          refine lv_goto (tgt := 4) hx hb dX8_isSo_82 (by decide) ?_
          exact ih4 0 (v2_4 + 1) hf _ _ _ ⟨hP, hD⟩ hS (lv_sub hl [4, 1, 0] rfl)
        · have hf := if_f hf hc10
          refine lv_iload hx hb dX8_isSo_53 (lv_at hl 0 rfl) ?_
          refine lv_if_ge (tgt := 62) hx hb dX8_isSo_55 (by decide) (fun hc11 => ?_) (fun hc11 => ?_)
          · have hf := if_t hf hc11
            refine lv_iload hx hb dX8_isSo_62 (lv_at hl 0 rfl) ?_
            exact J64 (u1 - (((m_notes v2_4.toNatClampNeg) / 10) * (m_told (19 + ((m_notes v2_4.toNatClampNeg) - (m_notes v2_4.toNatClampNeg) / 10 * 10)).toNatClampNeg))) hf _ _ _ ⟨hP, hD⟩ hS (lv_sub hl [2, 4] rfl)
          · have hf := if_f hf hc11
            refine lv_iconst (v := 0) hx hb dX8_isSo_58 (by decide) ?_
            refine lv_goto (tgt := 64) hx hb dX8_isSo_59 (by decide) ?_
            exact J64 0 hf _ _ _ ⟨hP, hD⟩ hS (lv_sub hl [2, 4] rfl)
  refine lv_iconst (v := 1) hx hb dX8_isSo_0 (by decide) ?_
  refine lv_istore_n (lv' := [(1, .int 1), (0, .ref a_m)]) hx hb dX8_isSo_1 rfl hl (by decide) rfl (fun ls hl => ?_)
  refine lv_iconst (v := 0) hx hb dX8_isSo_2 (by decide) ?_
  refine lv_istore_n (lv' := [(2, .int 0), (1, .int 1), (0, .ref a_m)]) hx hb dX8_isSo_3 rfl hl (by decide) rfl (fun ls hl => ?_)
  exact L4  FU 1 0 hf _ _ _ ⟨hP, hD⟩ hS (lv_sub hl [2, 1, 0] rfl)
abbrev rmX8_theft : Room := { frames := 2, cells := 0, slots := 0, locals := 48 }
theorem hiX8_theft_8 : ∀ w ∈ wsX80, w ∈ wsX8_theft := fun w h => (goodIn_r (big := wsX8_theft) wsX80 [35, 36, 37, 38, 39, 40, 41, 42, 43, 44, 45, 46, 47, 48, 49, 50, 51, 52, 53] rfl (by decide +kernel) w h).1
theorem cw_X8_theft_X8_remembers_130 {s : State} {args : Array Value} (hts : ∀ x ∈ wsX8_theft, x.before args s = true) : CallW rmX8_theft s args RX8 RX8 130 yX8_remembers cX8_remembers 2 none wsX8_remembers rmX8_remembers 0 0 0 := cwV 0 hts gX8_theft_X8_remembers rfl rfl rfl (by decide +kernel) ⟨Nat.le_of_ble_eq_true rfl, Nat.le_of_ble_eq_true rfl⟩
theorem cw_X8_theft_X8_goes_123 {s : State} {args : Array Value} (hts : ∀ x ∈ wsX8_theft, x.before args s = true) : CallW rmX8_theft s args RX8 RX8 123 yX8_goes cX8_goes 6 (some .int) wsX8_goes rmX8_goes 0 0 3 := cwV 3 hts gX8_theft_X8_goes rfl rfl rfl (by decide +kernel) ⟨Nat.le_of_ble_eq_true rfl, Nat.le_of_ble_eq_true rfl⟩
theorem cw_X8_theft_X8_isSo_139 {s : State} {args : Array Value} (hts : ∀ x ∈ wsX8_theft, x.before args s = true) : CallW rmX8_theft s args RX8 RX8 139 yX8_isSo cX8_isSo 5 (some .boolean) wsX8_isSo rmX8_isSo 0 0 0 := cwV 0 hts gX8_theft_X8_isSo rfl rfl rfl (by decide +kernel) ⟨Nat.le_of_ble_eq_true rfl, Nat.le_of_ble_eq_true rfl⟩
theorem cw_X8_theft_X8_lets_133 {s : State} {args : Array Value} (hts : ∀ x ∈ wsX8_theft, x.before args s = true) : CallW rmX8_theft s args RX8 RX8 133 yX8_lets cX8_lets 2 none wsX8_lets rmX8_lets 0 0 0 := cwV 0 hts gX8_theft_X8_lets rfl rfl rfl (by decide +kernel) ⟨Nat.le_of_ble_eq_true rfl, Nat.le_of_ble_eq_true rfl⟩
theorem cw_X8_theft_X8_full_98 {s : State} {args : Array Value} (hts : ∀ x ∈ wsX8_theft, x.before args s = true) : CallW rmX8_theft s args RX8 RX8 98 yX8_full cX8_full 4 (some .int) wsX8_full rmX8_full 0 0 1 := cwV 1 hts gX8_theft_X8_full rfl rfl rfl (by decide +kernel) ⟨Nat.le_of_ble_eq_true rfl, Nat.le_of_ble_eq_true rfl⟩
theorem cw_X8_theft_X8_in_51 {s : State} {args : Array Value} (hts : ∀ x ∈ wsX8_theft, x.before args s = true) : CallB rmX8_theft s args RX8 51 yX8_in cX8_in 3 (some .boolean) wsX8_in rmX8_in 0 0 3 ∧ (Cond.static yX8_in).before args s = true := va_cwS 3 hts gX8_theft_X8_in rfl rfl rfl (by decide +kernel) ⟨Nat.le_of_ble_eq_true rfl, Nat.le_of_ble_eq_true rfl⟩
set_option maxRecDepth 100000 in
set_option maxHeartbeats 4000000 in
theorem c_X8_theft (l : Launch) (D : va_G) (cI cZ cR : ClassId) (a_m : Nat) (a_m_told : Nat) (a_m_s : Nat) (a_m_held : Nat) (a_m_notes : Nat) (a_m_noted : Nat) (a_m_text : Nat) (a_m_draft : Nat) (a_m_past : Nat) (a_m_images : Nat) (a_m_kept : Nat) (a_m_few : Nat) (m_trace : Int64) (m_typed : Int32) (m_known : Int32) (m_many : Int32) (m_at : Int32) (m_sort : Int32) (m_start : Int32) (m_value : Int32) (m_told : Nat → Int32) (m_s : Nat → Int32) (m_held : Nat → Int32) (m_notes : Nat → Int32) (m_noted : Nat → Int32) (v1 : Int32) (out : Int32 × (Nat → Int32) × (Nat → Int32)) (hf : f_X8_theft m_many m_told m_s m_held m_notes m_noted v1 = some out) : Ci l yX8_theft wsX8_theft rmX8_theft D cI cZ cR [.ref a_m, .int v1] [(a_m, .inr (8, [.long m_trace, .ref a_m_text, .int m_typed, .ref a_m_told, .ref a_m_draft, .ref a_m_s, .ref a_m_past, .int m_known, .ref a_m_images, .ref a_m_kept, .ref a_m_notes, .ref a_m_noted, .int m_many, .int m_at, .int m_sort, .int m_start, .int m_value, .ref a_m_held, .ref a_m_few])), (a_m_told, .inl (cI, 33, .inl m_told)), (a_m_s, .inl (cI, 51, .inl m_s)), (a_m_held, .inl (cI, 51, .inl m_held)), (a_m_notes, .inl (cI, 5, .inl m_notes)), (a_m_noted, .inl (cI, 5, .inl m_noted))] out.1 [(a_m, .inr (8, [.long m_trace, .ref a_m_text, .int m_typed, .ref a_m_told, .ref a_m_draft, .ref a_m_s, .ref a_m_past, .int m_known, .ref a_m_images, .ref a_m_kept, .ref a_m_notes, .ref a_m_noted, .int m_many, .int m_at, .int m_sort, .int m_start, .int m_value, .ref a_m_held, .ref a_m_few])), (a_m_told, .inl (cI, 33, .inl m_told)), (a_m_s, .inl (cI, 51, .inl out.2.1)), (a_m_held, .inl (cI, 51, .inl out.2.2)), (a_m_notes, .inl (cI, 5, .inl m_notes)), (a_m_noted, .inl (cI, 5, .inl m_noted))] := by
  refine ent_i (cc := cX8_theft) (maxL := 9) .int (by decide) rfl (Nat.le_of_ble_eq_true rfl) ?_
  intro p e s m below meth c A Q hx hb hml hown hts hE hA hP hD hS hret ls hl
  have hown : s.vm.findClass RX8 = some m.cls := hown
  have hl : lv_has ls 9 [(0, .ref a_m), (1, .int v1)] := hl
  have fL13 := hts (.fieldLink RX8 13 "RainShelvesModel" "told" "[I") (List.mem_of_getElem? (i := 1) rfl)
  unfold f_X8_theft at hf
  have J143 : ∀ (v2_143 : Int32) (v3_143 : Int32) (v4_143 : Int32) (m_s_143 : Nat → Int32) (m_held_143 : Nat → Int32), f_X8_theft_J143 v1 v2_143 v3_143 v4_143 m_s_143 m_held_143 = some out → ∀ (H : Heap) (locs : List Loc) (ls : Array Slot), PD D A [(a_m, .inr (8, [.long m_trace, .ref a_m_text, .int m_typed, .ref a_m_told, .ref a_m_draft, .ref a_m_s, .ref a_m_past, .int m_known, .ref a_m_images, .ref a_m_kept, .ref a_m_notes, .ref a_m_noted, .int m_many, .int m_at, .int m_sort, .int m_start, .int m_value, .ref a_m_held, .ref a_m_few])), (a_m_told, .inl (cI, 33, .inl m_told)), (a_m_s, .inl (cI, 51, .inl m_s_143)), (a_m_held, .inl (cI, 51, .inl m_held_143)), (a_m_notes, .inl (cI, 5, .inl m_notes)), (a_m_noted, .inl (cI, 5, .inl m_noted))] H → va_S A s.heap H locs → lv_has ls 9 [(1, .int v1), (2, .int v2_143), (3, .int v3_143), (4, .int v4_143)] → W p l e rmX8_theft s m ([.ref a_m, .int v1] : List Value).toArray below meth c H locs 0 0 Q (F0 m 143 ls []) := by
    intro v2_143 v3_143 v4_143 m_s_143 m_held_143 hf H locs ls hPD hS hl
    obtain ⟨hP, hD⟩ := hPD
    unfold f_X8_theft_J143 at hf
    refine lv_iload_n hx hb dX8_theft_143 rfl (lv_at hl 0 rfl) ?_
    refine lv_if_ne (tgt := 151) hx hb dX8_theft_144 (by decide) (fun hc1 => ?_) (fun hc1 => ?_)
    · have hf := if_f hf hc1
      refine lv_iload_n hx hb dX8_theft_151 rfl (lv_at hl 0 rfl) ?_
      refine lv_iconst (v := 1) hx hb dX8_theft_152 (by decide) ?_
      refine lv_icmp_ne (tgt := 160) hx hb dX8_theft_153 (by decide) (fun hc2 => ?_) (fun hc2 => ?_)
      · have hf := if_f hf hc2
        refine lv_iload hx hb dX8_theft_160 (lv_at hl 3 rfl) ?_
        have he := Option.some.inj hf
        subst he
        exact hret _ _ _ _ dX8_theft_162 rfl hP hD hS
      · have hf := if_t hf hc2
        refine lv_iload_n hx hb dX8_theft_156 rfl (lv_at hl 2 rfl) ?_
        refine lv_goto (tgt := 162) hx hb dX8_theft_157 (by decide) ?_
        have he := Option.some.inj hf
        subst he
        exact hret _ _ _ _ dX8_theft_162 rfl hP hD hS
    · have hf := if_t hf hc1
      refine lv_iload_n hx hb dX8_theft_147 rfl (lv_at hl 1 rfl) ?_
      refine lv_goto (tgt := 162) hx hb dX8_theft_148 (by decide) ?_
      have he := Option.some.inj hf
      subst he
      exact hret _ _ _ _ dX8_theft_162 rfl hP hD hS
  have L29 : ∀ (n29 : Nat) (v2_29 : Int32) (v3_29 : Int32) (v4_29 : Int32) (v5_29 : Int32) (m_s_29 : Nat → Int32) (m_held_29 : Nat → Int32), f_X8_theft_L29 m_many m_told m_notes m_noted v1 n29 v2_29 v3_29 v4_29 v5_29 m_s_29 m_held_29 = some out → ∀ (H : Heap) (locs : List Loc) (ls : Array Slot), PD D A [(a_m, .inr (8, [.long m_trace, .ref a_m_text, .int m_typed, .ref a_m_told, .ref a_m_draft, .ref a_m_s, .ref a_m_past, .int m_known, .ref a_m_images, .ref a_m_kept, .ref a_m_notes, .ref a_m_noted, .int m_many, .int m_at, .int m_sort, .int m_start, .int m_value, .ref a_m_held, .ref a_m_few])), (a_m_told, .inl (cI, 33, .inl m_told)), (a_m_s, .inl (cI, 51, .inl m_s_29)), (a_m_held, .inl (cI, 51, .inl m_held_29)), (a_m_notes, .inl (cI, 5, .inl m_notes)), (a_m_noted, .inl (cI, 5, .inl m_noted))] H → va_S A s.heap H locs → lv_has ls 9 [(0, .ref a_m), (1, .int v1), (2, .int v2_29), (3, .int v3_29), (4, .int v4_29), (5, .int v5_29)] → W p l e rmX8_theft s m ([.ref a_m, .int v1] : List Value).toArray below meth c H locs 0 0 Q (F0 m 29 ls []) := by
    intro  n29
    induction n29 with
    | zero => intro v2_29 v3_29 v4_29 v5_29 m_s_29 m_held_29 hf; cases hf
    | succ n29 ih29 =>
      intro v2_29 v3_29 v4_29 v5_29 m_s_29 m_held_29 hf H locs ls hPD hS hl
      obtain ⟨hP, hD⟩ := hPD
      have hf : f_X8_theft_B29 m_many m_told m_notes m_noted v1 (f_X8_theft_L29 m_many m_told m_notes m_noted v1 n29) v2_29 v3_29 v4_29 v5_29 m_s_29 m_held_29 = some out := hf
      unfold f_X8_theft_B29 at hf
      have L46 : ∀ (v6_46 : Int32) (n46 : Nat) (v2_46 : Int32) (v3_46 : Int32) (v4_46 : Int32) (v7_46 : Int32) (m_s_46 : Nat → Int32) (m_held_46 : Nat → Int32), f_X8_theft_L46 m_many m_told m_notes m_noted v5_29 (f_X8_theft_L29 m_many m_told m_notes m_noted v1 n29) v6_46 n46 v2_46 v3_46 v4_46 v7_46 m_s_46 m_held_46 = some out → ∀ (H : Heap) (locs : List Loc) (ls : Array Slot), PD D A [(a_m, .inr (8, [.long m_trace, .ref a_m_text, .int m_typed, .ref a_m_told, .ref a_m_draft, .ref a_m_s, .ref a_m_past, .int m_known, .ref a_m_images, .ref a_m_kept, .ref a_m_notes, .ref a_m_noted, .int m_many, .int m_at, .int m_sort, .int m_start, .int m_value, .ref a_m_held, .ref a_m_few])), (a_m_told, .inl (cI, 33, .inl m_told)), (a_m_s, .inl (cI, 51, .inl m_s_46)), (a_m_held, .inl (cI, 51, .inl m_held_46)), (a_m_notes, .inl (cI, 5, .inl m_notes)), (a_m_noted, .inl (cI, 5, .inl m_noted))] H → va_S A s.heap H locs → lv_has ls 9 [(0, .ref a_m), (1, .int v1), (2, .int v2_46), (3, .int v3_46), (4, .int v4_46), (5, .int v5_29), (6, .int v6_46), (7, .int v7_46)] → W p l e rmX8_theft s m ([.ref a_m, .int v1] : List Value).toArray below meth c H locs 0 0 Q (F0 m 46 ls []) := by
        intro v6_46 n46
        induction n46 with
        | zero => intro v2_46 v3_46 v4_46 v7_46 m_s_46 m_held_46 hf; cases hf
        | succ n46 ih46 =>
          intro v2_46 v3_46 v4_46 v7_46 m_s_46 m_held_46 hf H locs ls hPD hS hl
          obtain ⟨hP, hD⟩ := hPD
          have hf : f_X8_theft_B46 m_many m_told m_notes m_noted v5_29 (f_X8_theft_L29 m_many m_told m_notes m_noted v1 n29) v6_46 (f_X8_theft_L46 m_many m_told m_notes m_noted v5_29 (f_X8_theft_L29 m_many m_told m_notes m_noted v1 n29) v6_46 n46) v2_46 v3_46 v4_46 v7_46 m_s_46 m_held_46 = some out := hf
          unfold f_X8_theft_B46 at hf
          have J112 : ∀ (v2_112 : Int32) (v8_112 : Int32) (m_s_112 : Nat → Int32) (m_held_112 : Nat → Int32) (s0_112 : Int32), f_X8_theft_J112 v5_29 v4_46 v7_46 (f_X8_theft_L46 m_many m_told m_notes m_noted v5_29 (f_X8_theft_L29 m_many m_told m_notes m_noted v1 n29) v6_46 n46) v2_112 v8_112 m_s_112 m_held_112 s0_112 = some out → ∀ (H : Heap) (locs : List Loc) (ls : Array Slot), PD D A [(a_m, .inr (8, [.long m_trace, .ref a_m_text, .int m_typed, .ref a_m_told, .ref a_m_draft, .ref a_m_s, .ref a_m_past, .int m_known, .ref a_m_images, .ref a_m_kept, .ref a_m_notes, .ref a_m_noted, .int m_many, .int m_at, .int m_sort, .int m_start, .int m_value, .ref a_m_held, .ref a_m_few])), (a_m_told, .inl (cI, 33, .inl m_told)), (a_m_s, .inl (cI, 51, .inl m_s_112)), (a_m_held, .inl (cI, 51, .inl m_held_112)), (a_m_notes, .inl (cI, 5, .inl m_notes)), (a_m_noted, .inl (cI, 5, .inl m_noted))] H → va_S A s.heap H locs → lv_has ls 9 [(0, .ref a_m), (1, .int v1), (2, .int v2_112), (4, .int v4_46), (5, .int v5_29), (6, .int v6_46), (7, .int v7_46), (8, .int v8_112)] → W p l e rmX8_theft s m ([.ref a_m, .int v1] : List Value).toArray below meth c H locs 0 0 Q (F0 m 112 ls [.int s0_112]) := by
            intro v2_112 v8_112 m_s_112 m_held_112 s0_112 hf H locs ls hPD hS hl
            obtain ⟨hP, hD⟩ := hPD
            unfold f_X8_theft_J112 at hf
            refine lv_istore_n (lv' := [(3, .int s0_112), (0, .ref a_m), (1, .int v1), (2, .int v2_112), (4, .int v4_46), (5, .int v5_29), (6, .int v6_46), (7, .int v7_46), (8, .int v8_112)]) hx hb dX8_theft_112 rfl hl (by decide) rfl (fun ls hl => ?_)
            refine lv_iload hx hb dX8_theft_113 (lv_at hl 4 rfl) ?_
            refine lv_iload hx hb dX8_theft_115 (lv_at hl 8 rfl) ?_
            refine lv_if_eq (tgt := 127) hx hb dX8_theft_117 (by decide) (fun hc3 => ?_) (fun hc3 => ?_)
            · have hf := if_t hf hc3
              refine lv_iconst (v := 0) hx hb dX8_theft_127 (by decide) ?_
              refine lv_ior hx hb dX8_theft_128 ?_
              refine lv_istore (lv' := [(4, .int (v4_46 ||| 0)), (3, .int s0_112), (0, .ref a_m), (1, .int v1), (2, .int v2_112), (5, .int v5_29), (6, .int v6_46), (7, .int v7_46), (8, .int v8_112)]) hx hb dX8_theft_129 hl (by decide) rfl (fun ls hl => ?_)
              refine lv_iinc (v := (v7_46 + (-1))) (lv' := [(7, .int (v7_46 + (-1))), (4, .int (v4_46 ||| 0)), (3, .int s0_112), (0, .ref a_m), (1, .int v1), (2, .int v2_112), (5, .int v5_29), (6, .int v6_46), (8, .int v8_112)]) hx hb dX8_theft_131 hl (k := 7) rfl (ii_m1 _) (by decide) rfl (fun ls hl => ?_)
              refine lv_goto (tgt := 46) hx hb dX8_theft_134 (by decide) ?_
              exact ih46 v2_112 s0_112 (v4_46 ||| 0) (v7_46 + (-1)) m_s_112 m_held_112 hf _ _ _ ⟨hP, hD⟩ hS (lv_sub hl [3, 4, 5, 2, 1, 6, 7, 0] rfl)
            · have hf := if_f hf hc3
              refine lv_iconst (v := 1) hx hb dX8_theft_120 (by decide) ?_
              refine lv_iload hx hb dX8_theft_121 (lv_at hl 5 rfl) ?_
              refine lv_ishl hx hb dX8_theft_123 ?_
              refine lv_goto (tgt := 128) hx hb dX8_theft_124 (by decide) ?_
              refine lv_ior hx hb dX8_theft_128 ?_
              refine lv_istore (lv' := [(4, .int (v4_46 ||| ((1 : Int32) <<< (v5_29 &&& 31)))), (3, .int s0_112), (0, .ref a_m), (1, .int v1), (2, .int v2_112), (5, .int v5_29), (6, .int v6_46), (7, .int v7_46), (8, .int v8_112)]) hx hb dX8_theft_129 hl (by decide) rfl (fun ls hl => ?_)
              refine lv_iinc (v := (v7_46 + (-1))) (lv' := [(7, .int (v7_46 + (-1))), (4, .int (v4_46 ||| ((1 : Int32) <<< (v5_29 &&& 31)))), (3, .int s0_112), (0, .ref a_m), (1, .int v1), (2, .int v2_112), (5, .int v5_29), (6, .int v6_46), (8, .int v8_112)]) hx hb dX8_theft_131 hl (k := 7) rfl (ii_m1 _) (by decide) rfl (fun ls hl => ?_)
              refine lv_goto (tgt := 46) hx hb dX8_theft_134 (by decide) ?_
              exact ih46 v2_112 s0_112 (v4_46 ||| ((1 : Int32) <<< (v5_29 &&& 31))) (v7_46 + (-1)) m_s_112 m_held_112 hf _ _ _ ⟨hP, hD⟩ hS (lv_sub hl [3, 4, 5, 2, 1, 6, 7, 0] rfl)
          have J93 : ∀ (v8_93 : Int32) (m_s_93 : Nat → Int32) (m_held_93 : Nat → Int32) (s0_93 : Int32) (s1_93 : Int32), f_X8_theft_J93 v5_29 v3_46 v4_46 v7_46 (f_X8_theft_L46 m_many m_told m_notes m_noted v5_29 (f_X8_theft_L29 m_many m_told m_notes m_noted v1 n29) v6_46 n46) v8_93 m_s_93 m_held_93 s0_93 s1_93 = some out → ∀ (H : Heap) (locs : List Loc) (ls : Array Slot), PD D A [(a_m, .inr (8, [.long m_trace, .ref a_m_text, .int m_typed, .ref a_m_told, .ref a_m_draft, .ref a_m_s, .ref a_m_past, .int m_known, .ref a_m_images, .ref a_m_kept, .ref a_m_notes, .ref a_m_noted, .int m_many, .int m_at, .int m_sort, .int m_start, .int m_value, .ref a_m_held, .ref a_m_few])), (a_m_told, .inl (cI, 33, .inl m_told)), (a_m_s, .inl (cI, 51, .inl m_s_93)), (a_m_held, .inl (cI, 51, .inl m_held_93)), (a_m_notes, .inl (cI, 5, .inl m_notes)), (a_m_noted, .inl (cI, 5, .inl m_noted))] H → va_S A s.heap H locs → lv_has ls 9 [(0, .ref a_m), (1, .int v1), (3, .int v3_46), (4, .int v4_46), (5, .int v5_29), (6, .int v6_46), (7, .int v7_46), (8, .int v8_93)] → W p l e rmX8_theft s m ([.ref a_m, .int v1] : List Value).toArray below meth c H locs 0 0 Q (F0 m 93 ls [.int s1_93, .int s0_93]) := by
            intro v8_93 m_s_93 m_held_93 s0_93 s1_93 hf H locs ls hPD hS hl
            obtain ⟨hP, hD⟩ := hPD
            unfold f_X8_theft_J93 at hf
            refine lv_iadd hx hb dX8_theft_93 ?_
            refine lv_istore_n (lv' := [(2, .int (s0_93 + s1_93)), (0, .ref a_m), (1, .int v1), (3, .int v3_46), (4, .int v4_46), (5, .int v5_29), (6, .int v6_46), (7, .int v7_46), (8, .int v8_93)]) hx hb dX8_theft_94 rfl hl (by decide) rfl (fun ls hl => ?_)
            refine lv_iload hx hb dX8_theft_95 (lv_at hl 8 rfl) ?_
            refine lv_if_eq (tgt := 111) hx hb dX8_theft_97 (by decide) (fun hc4 => ?_) (fun hc4 => ?_)
            · have hf := if_t hf hc4
              refine lv_iload_n hx hb dX8_theft_111 rfl (lv_at hl 3 rfl) ?_
              exact J112 (s0_93 + s1_93) v8_93 m_s_93 m_held_93 v3_46 hf _ _ _ ⟨hP, hD⟩ hS (lv_sub hl [1, 2, 0, 4, 5, 6, 7, 8] rfl)
            · have hf := if_f hf hc4
              refine lv_bipush (v := 100) hx hb dX8_theft_100 (by decide) ?_
              refine lv_iload hx hb dX8_theft_102 (lv_at hl 5 rfl) ?_
              refine lv_imul hx hb dX8_theft_104 ?_
              refine lv_iload hx hb dX8_theft_105 (lv_at hl 7 rfl) ?_
              refine lv_iadd hx hb dX8_theft_107 ?_
              refine lv_goto (tgt := 112) hx hb dX8_theft_108 (by decide) ?_
              exact J112 (s0_93 + s1_93) v8_93 m_s_93 m_held_93 ((100 * v5_29) + v7_46) hf _ _ _ ⟨hP, hD⟩ hS (lv_sub hl [1, 2, 0, 4, 5, 6, 7, 8] rfl)
          refine lv_iload hx hb dX8_theft_46 (lv_at hl 7 rfl) ?_
          refine lv_if_le (tgt := 137) hx hb dX8_theft_48 (by decide) (fun hc5 => ?_) (fun hc5 => ?_)
          · have hf := if_t hf hc5
            refine lv_iinc (v := (v5_29 + (-1))) (lv' := [(5, .int (v5_29 + (-1))), (0, .ref a_m), (1, .int v1), (2, .int v2_46), (3, .int v3_46), (4, .int v4_46), (6, .int v6_46), (7, .int v7_46)]) hx hb dX8_theft_137 hl (k := 5) rfl (ii_m1 _) (by decide) rfl (fun ls hl => ?_)
            refine lv_goto (tgt := 29) hx hb dX8_theft_140 (by decide) ?_
            exact ih29 v2_46 v3_46 v4_46 (v5_29 + (-1)) m_s_46 m_held_46 hf _ _ _ ⟨hP, hD⟩ hS (lv_sub hl [1, 2, 3, 4, 5, 0] rfl)
          · have hf := if_f hf hc5
            refine lv_iload hx hb dX8_theft_51 (lv_at hl 7 rfl) ?_
            refine lv_iload hx hb dX8_theft_53 (lv_at hl 6 rfl) ?_
            refine lv_icmp_gt (tgt := 131) hx hb dX8_theft_55 (by decide) (fun hc6 => ?_) (fun hc6 => ?_)
            · have hf := if_t hf hc6
              refine lv_iinc (v := (v7_46 + (-1))) (lv' := [(7, .int (v7_46 + (-1))), (0, .ref a_m), (1, .int v1), (2, .int v2_46), (3, .int v3_46), (4, .int v4_46), (5, .int v5_29), (6, .int v6_46)]) hx hb dX8_theft_131 hl (k := 7) rfl (ii_m1 _) (by decide) rfl (fun ls hl => ?_)
              refine lv_goto (tgt := 46) hx hb dX8_theft_134 (by decide) ?_
              exact ih46 v2_46 v3_46 v4_46 (v7_46 + (-1)) m_s_46 m_held_46 hf _ _ _ ⟨hP, hD⟩ hS (lv_sub hl [1, 2, 3, 4, 5, 6, 7, 0] rfl)
            · have hf := if_f hf hc6
              refine lv_aload_n hx hb dX8_theft_58 rfl (lv_at hl 0 rfl) ?_
              obtain ⟨u1, hu1, hf⟩ := bd_some hf
              refine cl_vV (As := []) (rest := []) ⟨hx, hb, hml, hown, hts⟩ (c_X8_remembers l D cI cZ cR a_m a_m_s a_m_held a_m_text a_m_told a_m_draft a_m_past a_m_images a_m_kept a_m_notes a_m_noted a_m_few m_trace m_typed m_known m_many m_at m_sort m_start m_value m_s_46 m_held_46  u1 hu1) (cw_X8_theft_X8_remembers_130 hts) hE hP hD hS hA [0, 2, 3] rfl rfl [a_m, a_m_s, a_m_held] rfl rfl 0 8 rfl rfl rfl hl.1 rfl (Nat.le_of_ble_eq_true rfl) dX8_theft_59 ⟨Nat.zero_le _, Nat.zero_le _⟩ (fun H locs hP hD hS => ?_)
              have hPD : PD D A [(a_m, .inr (8, [.long m_trace, .ref a_m_text, .int m_typed, .ref a_m_told, .ref a_m_draft, .ref a_m_s, .ref a_m_past, .int m_known, .ref a_m_images, .ref a_m_kept, .ref a_m_notes, .ref a_m_noted, .int m_many, .int m_at, .int m_sort, .int m_start, .int m_value, .ref a_m_held, .ref a_m_few])), (a_m_told, .inl (cI, 33, .inl m_told)), (a_m_s, .inl (cI, 51, .inl m_s_46)), (a_m_held, .inl (cI, 51, .inl u1)), (a_m_notes, .inl (cI, 5, .inl m_notes)), (a_m_noted, .inl (cI, 5, .inl m_noted))] H := ⟨hP, hD⟩
              obtain ⟨hP, hD⟩ := hPD
              refine lv_aload_n hx hb dX8_theft_62 rfl (lv_at hl 0 rfl) ?_
              refine lv_iload hx hb dX8_theft_63 (lv_at hl 5 rfl) ?_
              refine lv_iload hx hb dX8_theft_65 (lv_at hl 7 rfl) ?_
              refine lv_iconst (v := (-1)) hx hb dX8_theft_67 (by decide) ?_
              obtain ⟨u2, hu2, hf⟩ := bd_some hf
              refine cl_iV (As := [.int v5_29, .int v7_46, .int (-1)]) (rest := []) ⟨hx, hb, hml, hown, hts⟩ (c_X8_goes l D cI cZ cR a_m a_m_s a_m_told a_m_text a_m_draft a_m_past a_m_images a_m_kept a_m_notes a_m_noted a_m_held a_m_few m_trace m_typed m_known m_many m_at m_sort m_start m_value m_s_46 m_told v5_29 v7_46 (-1) u2 hu2) (cw_X8_theft_X8_goes_123 hts) hE hP hD hS hA [0, 2, 1] rfl rfl [a_m, a_m_s, a_m_told] rfl rfl 0 8 rfl rfl rfl hl.1 rfl (Nat.le_of_ble_eq_true rfl) dX8_theft_68 ⟨Nat.zero_le _, Nat.zero_le _⟩ (fun H locs hP hD hS => ?_)
              have hPD : PD D A [(a_m, .inr (8, [.long m_trace, .ref a_m_text, .int m_typed, .ref a_m_told, .ref a_m_draft, .ref a_m_s, .ref a_m_past, .int m_known, .ref a_m_images, .ref a_m_kept, .ref a_m_notes, .ref a_m_noted, .int m_many, .int m_at, .int m_sort, .int m_start, .int m_value, .ref a_m_held, .ref a_m_few])), (a_m_told, .inl (cI, 33, .inl m_told)), (a_m_s, .inl (cI, 51, .inl u2.2)), (a_m_held, .inl (cI, 51, .inl u1)), (a_m_notes, .inl (cI, 5, .inl m_notes)), (a_m_noted, .inl (cI, 5, .inl m_noted))] H := ⟨hP, hD⟩
              obtain ⟨hP, hD⟩ := hPD
              refine lv_pop hx hb dX8_theft_71 rfl ?_
              refine lv_aload_n hx hb dX8_theft_72 rfl (lv_at hl 0 rfl) ?_
              obtain ⟨u3, hu3, hf⟩ := bd_some hf
              refine cl_iV (As := []) (rest := []) ⟨hx, hb, hml, hown, hts⟩ (c_X8_isSo l D cI cZ cR a_m a_m_notes a_m_s a_m_told a_m_noted a_m_text a_m_draft a_m_past a_m_images a_m_kept a_m_held a_m_few m_trace m_typed m_known m_many m_at m_sort m_start m_value m_notes u2.2 m_told m_noted  u3 hu3) (cw_X8_theft_X8_isSo_139 hts) hE hP hD hS hA [0, 4, 2, 1, 5] rfl rfl [a_m, a_m_notes, a_m_s, a_m_told, a_m_noted] rfl rfl 0 8 rfl rfl rfl hl.1 rfl (Nat.le_of_ble_eq_true rfl) dX8_theft_73 ⟨Nat.zero_le _, Nat.zero_le _⟩ (fun H locs hP hD hS => ?_)
              have hPD : PD D A [(a_m, .inr (8, [.long m_trace, .ref a_m_text, .int m_typed, .ref a_m_told, .ref a_m_draft, .ref a_m_s, .ref a_m_past, .int m_known, .ref a_m_images, .ref a_m_kept, .ref a_m_notes, .ref a_m_noted, .int m_many, .int m_at, .int m_sort, .int m_start, .int m_value, .ref a_m_held, .ref a_m_few])), (a_m_told, .inl (cI, 33, .inl m_told)), (a_m_s, .inl (cI, 51, .inl u2.2)), (a_m_held, .inl (cI, 51, .inl u1)), (a_m_notes, .inl (cI, 5, .inl m_notes)), (a_m_noted, .inl (cI, 5, .inl m_noted))] H := ⟨hP, hD⟩
              obtain ⟨hP, hD⟩ := hPD
              refine lv_istore (lv' := [(8, .int u3), (0, .ref a_m), (1, .int v1), (2, .int v2_46), (3, .int v3_46), (4, .int v4_46), (5, .int v5_29), (6, .int v6_46), (7, .int v7_46)]) hx hb dX8_theft_76 hl (by decide) rfl (fun ls hl => ?_)
              refine lv_aload_n hx hb dX8_theft_78 rfl (lv_at hl 1 rfl) ?_
              obtain ⟨u4, hu4, hf⟩ := bd_some hf
              refine cl_vV (As := []) (rest := []) ⟨hx, hb, hml, hown, hts⟩ (c_X8_lets l D cI cZ cR a_m a_m_held a_m_s a_m_text a_m_told a_m_draft a_m_past a_m_images a_m_kept a_m_notes a_m_noted a_m_few m_trace m_typed m_known m_many m_at m_sort m_start m_value u1 u2.2  u4 hu4) (cw_X8_theft_X8_lets_133 hts) hE hP hD hS hA [0, 3, 2] rfl rfl [a_m, a_m_held, a_m_s] rfl rfl 0 8 rfl rfl rfl hl.1 rfl (Nat.le_of_ble_eq_true rfl) dX8_theft_79 ⟨Nat.zero_le _, Nat.zero_le _⟩ (fun H locs hP hD hS => ?_)
              have hPD : PD D A [(a_m, .inr (8, [.long m_trace, .ref a_m_text, .int m_typed, .ref a_m_told, .ref a_m_draft, .ref a_m_s, .ref a_m_past, .int m_known, .ref a_m_images, .ref a_m_kept, .ref a_m_notes, .ref a_m_noted, .int m_many, .int m_at, .int m_sort, .int m_start, .int m_value, .ref a_m_held, .ref a_m_few])), (a_m_told, .inl (cI, 33, .inl m_told)), (a_m_s, .inl (cI, 51, .inl u4)), (a_m_held, .inl (cI, 51, .inl u1)), (a_m_notes, .inl (cI, 5, .inl m_notes)), (a_m_noted, .inl (cI, 5, .inl m_noted))] H := ⟨hP, hD⟩
              obtain ⟨hP, hD⟩ := hPD
              refine lv_iload_n hx hb dX8_theft_82 rfl (lv_at hl 3 rfl) ?_
              refine lv_iload hx hb dX8_theft_83 (lv_at hl 0 rfl) ?_
              refine lv_if_eq (tgt := 92) hx hb dX8_theft_85 (by decide) (fun hc7 => ?_) (fun hc7 => ?_)
              · have hf := if_t hf hc7
                refine lv_iconst (v := 0) hx hb dX8_theft_92 (by decide) ?_
                exact J93 u3 u4 u1 v2_46 0 hf _ _ _ ⟨hP, hD⟩ hS (lv_sub hl [1, 2, 4, 5, 6, 7, 8, 0] rfl)
              · have hf := if_f hf hc7
                refine lv_iconst (v := 1) hx hb dX8_theft_88 (by decide) ?_
                refine lv_goto (tgt := 93) hx hb dX8_theft_89 (by decide) ?_
                exact J93 u3 u4 u1 v2_46 1 hf _ _ _ ⟨hP, hD⟩ hS (lv_sub hl [1, 2, 4, 5, 6, 7, 8, 0] rfl)
      refine lv_iload hx hb dX8_theft_29 (lv_at hl 5 rfl) ?_
      refine lv_if_lt (tgt := 143) hx hb dX8_theft_31 (by decide) (fun hc8 => ?_) (fun hc8 => ?_)
      · have hf := if_t hf hc8
        exact J143 v2_29 v3_29 v4_29 m_s_29 m_held_29 hf _ _ _ ⟨hP, hD⟩ hS (lv_sub hl [1, 2, 3, 4] rfl)
      · have hf := if_f hf hc8
        refine lv_aload_n hx hb dX8_theft_34 rfl (lv_at hl 0 rfl) ?_
        refine lv_iload hx hb dX8_theft_35 (lv_at hl 5 rfl) ?_
        obtain ⟨u5, hu5, hf⟩ := bd_some hf
        refine cl_iV (As := [.int v5_29]) (rest := []) ⟨hx, hb, hml, hown, hts⟩ (c_X8_full l D cI cZ cR a_m a_m_s a_m_text a_m_told a_m_draft a_m_past a_m_images a_m_kept a_m_notes a_m_noted a_m_held a_m_few m_trace m_typed m_known m_many m_at m_sort m_start m_value m_s_29 v5_29 u5 hu5) (cw_X8_theft_X8_full_98 hts) hE hP hD hS hA [0, 2] rfl rfl [a_m, a_m_s] rfl rfl 0 8 rfl rfl rfl hl.1 rfl (Nat.le_of_ble_eq_true rfl) dX8_theft_37 ⟨Nat.zero_le _, Nat.zero_le _⟩ (fun H locs hP hD hS => ?_)
        have hPD : PD D A [(a_m, .inr (8, [.long m_trace, .ref a_m_text, .int m_typed, .ref a_m_told, .ref a_m_draft, .ref a_m_s, .ref a_m_past, .int m_known, .ref a_m_images, .ref a_m_kept, .ref a_m_notes, .ref a_m_noted, .int m_many, .int m_at, .int m_sort, .int m_start, .int m_value, .ref a_m_held, .ref a_m_few])), (a_m_told, .inl (cI, 33, .inl m_told)), (a_m_s, .inl (cI, 51, .inl m_s_29)), (a_m_held, .inl (cI, 51, .inl m_held_29)), (a_m_notes, .inl (cI, 5, .inl m_notes)), (a_m_noted, .inl (cI, 5, .inl m_noted))] H := ⟨hP, hD⟩
        obtain ⟨hP, hD⟩ := hPD
        refine lv_istore (lv' := [(6, .int u5), (0, .ref a_m), (1, .int v1), (2, .int v2_29), (3, .int v3_29), (4, .int v4_29), (5, .int v5_29)]) hx hb dX8_theft_40 hl (by decide) rfl (fun ls hl => ?_)
        refine lv_bipush (v := 20) hx hb dX8_theft_42 (by decide) ?_
        refine lv_istore (lv' := [(7, .int 20), (6, .int u5), (0, .ref a_m), (1, .int v1), (2, .int v2_29), (3, .int v3_29), (4, .int v4_29), (5, .int v5_29)]) hx hb dX8_theft_44 hl (by decide) rfl (fun ls hl => ?_)
        exact L46 u5 FU v2_29 v3_29 v4_29 20 m_s_29 m_held_29 hf _ _ _ ⟨hP, hD⟩ hS (lv_sub hl [2, 3, 4, 5, 6, 7, 1, 0] rfl)
  refine lv_iload_n hx hb dX8_theft_0 rfl (lv_at hl 1 rfl) ?_
  refine lv_iconst (v := 0) hx hb dX8_theft_1 (by decide) ?_
  refine lv_iconst (v := 2) hx hb dX8_theft_2 (by decide) ?_
  obtain ⟨u6, hu6, hf⟩ := bd_some hf
  refine cl_iS (As := [.int v1, .int 0, .int 2]) (rest := []) ⟨hx, hb, hml, hown, hts⟩ (c_X8_in l D cI cZ cR   v1 0 2 u6 hu6) (cw_X8_theft_X8_in_51 hts) hE hP hD hS hA rfl hl.1 rfl (Nat.le_of_ble_eq_true rfl) dX8_theft_3 ⟨Nat.zero_le _, Nat.zero_le _⟩ (fun H locs hP hS => ?_)
  refine lv_if_ne (tgt := 11) hx hb dX8_theft_6 (by decide) (fun hc9 => ?_) (fun hc9 => ?_)
  · have hf := if_f hf hc9
    refine lv_iconst (v := 0) hx hb dX8_theft_11 (by decide) ?_
    refine lv_istore_n (lv' := [(2, .int 0), (0, .ref a_m), (1, .int v1)]) hx hb dX8_theft_12 rfl hl (by decide) rfl (fun ls hl => ?_)
    refine lv_bipush (v := (-9)) hx hb dX8_theft_13 (by decide) ?_
    refine lv_istore_n (lv' := [(3, .int (-9)), (2, .int 0), (0, .ref a_m), (1, .int v1)]) hx hb dX8_theft_15 rfl hl (by decide) rfl (fun ls hl => ?_)
    refine lv_iconst (v := 0) hx hb dX8_theft_16 (by decide) ?_
    refine lv_istore (lv' := [(4, .int 0), (3, .int (-9)), (2, .int 0), (0, .ref a_m), (1, .int v1)]) hx hb dX8_theft_17 hl (by decide) rfl (fun ls hl => ?_)
    refine lv_aload_n hx hb dX8_theft_19 rfl (lv_at hl 3 rfl) ?_
    refine va_get (D := D) (ci := 8) (v := .ref a_m_told) (C := RX8) (T := TX8) (N := 19) hx hb hts hiX8_theft_8 hown hE.1 hP 0 rfl rfl 3 (by decide) fL13 (fun _ h9 => h9) rfl dX8_theft_20 ?_
    refine lv_iconst (v := 0) hx hb dX8_theft_23 (by decide) ?_
    obtain ⟨hc10, hf⟩ := ck_some hf
    refine va_iald hx hb hE.1 hP 1 0 rfl rfl (ix_in hc10) dX8_theft_24 ?_
    refine lv_iconst (v := 1) hx hb dX8_theft_25 (by decide) ?_
    refine lv_isub hx hb dX8_theft_26 ?_
    refine lv_istore (lv' := [(5, .int ((m_told (0 : Int32).toNatClampNeg) - 1)), (4, .int 0), (3, .int (-9)), (2, .int 0), (0, .ref a_m), (1, .int v1)]) hx hb dX8_theft_27 hl (by decide) rfl (fun ls hl => ?_)
    exact L29  FU 0 (-9) 0 ((m_told (0 : Int32).toNatClampNeg) - 1) m_s m_held hf _ _ _ ⟨hP, hD⟩ hS (lv_sub hl [4, 5, 3, 2, 1, 0] rfl)
  · have hf := if_t hf hc9
    refine lv_iconst (v := (-1)) hx hb dX8_theft_9 (by decide) ?_
    have he := Option.some.inj hf
    subst he
    exact hret _ _ _ _ dX8_theft_10 rfl hP hD hS
abbrev rmX8_isHail : Room := { frames := 0, cells := 0, slots := 0, locals := 0 }
theorem hiX8_isHail_8 : ∀ w ∈ wsX80, w ∈ wsX8_isHail := fun w h => (goodIn_r (big := wsX8_isHail) wsX80 [2, 3, 4, 5, 6, 7, 8, 9, 10, 11, 12, 13, 14, 15, 16, 17, 18, 19, 20] rfl (by decide +kernel) w h).1
set_option maxRecDepth 100000 in
set_option maxHeartbeats 4000000 in
theorem c_X8_isHail (l : Launch) (D : va_G) (cI cZ cR : ClassId) (a_m : Nat) (a_m_told : Nat) (a_m_text : Nat) (a_m_draft : Nat) (a_m_s : Nat) (a_m_past : Nat) (a_m_images : Nat) (a_m_kept : Nat) (a_m_notes : Nat) (a_m_noted : Nat) (a_m_held : Nat) (a_m_few : Nat) (m_trace : Int64) (m_typed : Int32) (m_known : Int32) (m_many : Int32) (m_at : Int32) (m_sort : Int32) (m_start : Int32) (m_value : Int32) (m_told : Nat → Int32) (v1 : Int32) (out : Int32) (hf : f_X8_isHail m_told v1 = some out) : Ci l yX8_isHail wsX8_isHail rmX8_isHail D cI cZ cR [.ref a_m, .int v1] [(a_m, .inr (8, [.long m_trace, .ref a_m_text, .int m_typed, .ref a_m_told, .ref a_m_draft, .ref a_m_s, .ref a_m_past, .int m_known, .ref a_m_images, .ref a_m_kept, .ref a_m_notes, .ref a_m_noted, .int m_many, .int m_at, .int m_sort, .int m_start, .int m_value, .ref a_m_held, .ref a_m_few])), (a_m_told, .inl (cI, 33, .inl m_told))] out [(a_m, .inr (8, [.long m_trace, .ref a_m_text, .int m_typed, .ref a_m_told, .ref a_m_draft, .ref a_m_s, .ref a_m_past, .int m_known, .ref a_m_images, .ref a_m_kept, .ref a_m_notes, .ref a_m_noted, .int m_many, .int m_at, .int m_sort, .int m_start, .int m_value, .ref a_m_held, .ref a_m_few])), (a_m_told, .inl (cI, 33, .inl m_told))] := by
  refine ent_i (cc := cX8_isHail) (maxL := 2) .boolean (by decide) rfl (Nat.le_of_ble_eq_true rfl) ?_
  intro p e s m below meth c A Q hx hb hml hown hts hE hA hP hD hS hret ls hl
  have hown : s.vm.findClass RX8 = some m.cls := hown
  have hl : lv_has ls 2 [(0, .ref a_m), (1, .int v1)] := hl
  have fL13 := hts (.fieldLink RX8 13 "RainShelvesModel" "told" "[I") (List.mem_of_getElem? (i := 1) rfl)
  unfold f_X8_isHail at hf
  refine lv_aload_n hx hb dX8_isHail_0 rfl (lv_at hl 0 rfl) ?_
  refine va_get (D := D) (ci := 8) (v := .ref a_m_told) (C := RX8) (T := TX8) (N := 19) hx hb hts hiX8_isHail_8 hown hE.1 hP 0 rfl rfl 3 (by decide) fL13 (fun _ h9 => h9) rfl dX8_isHail_1 ?_
  refine lv_bipush (v := 26) hx hb dX8_isHail_4 (by decide) ?_
  refine lv_iload_n hx hb dX8_isHail_6 rfl (lv_at hl 1 rfl) ?_
  refine lv_iadd hx hb dX8_isHail_7 ?_
  obtain ⟨hc1, hf⟩ := ck_some hf
  refine va_iald hx hb hE.1 hP 1 0 rfl rfl (ix_in hc1) dX8_isHail_8 ?_
  refine lv_iconst (v := 2) hx hb dX8_isHail_9 (by decide) ?_
  refine lv_icmp_ne (tgt := 17) hx hb dX8_isHail_10 (by decide) (fun hc2 => ?_) (fun hc2 => ?_)
  · have hf := if_f hf hc2
    refine lv_iconst (v := 0) hx hb dX8_isHail_17 (by decide) ?_
    have he := Option.some.inj hf
    subst he
    exact hret _ _ _ _ dX8_isHail_18 bn0 hP hD hS
  · have hf := if_t hf hc2
    refine lv_iconst (v := 1) hx hb dX8_isHail_13 (by decide) ?_
    refine lv_goto (tgt := 18) hx hb dX8_isHail_14 (by decide) ?_
    have he := Option.some.inj hf
    subst he
    exact hret _ _ _ _ dX8_isHail_18 bn1 hP hD hS
abbrev rmX8_stand : Room := { frames := 1, cells := 0, slots := 0, locals := 23 }
theorem hiX8_stand_8 : ∀ w ∈ wsX80, w ∈ wsX8_stand := fun w h => (goodIn_r (big := wsX8_stand) wsX80 [12, 13, 14, 15, 16, 17, 18, 19, 20, 21, 22, 23, 24, 25, 26, 27, 28, 29, 30] rfl (by decide +kernel) w h).1
theorem cw_X8_stand_X8_full_98 {s : State} {args : Array Value} (hts : ∀ x ∈ wsX8_stand, x.before args s = true) : CallW rmX8_stand s args RX8 RX8 98 yX8_full cX8_full 4 (some .int) wsX8_full rmX8_full 0 0 1 := cwV 1 hts gX8_stand_X8_full rfl rfl rfl (by decide +kernel) ⟨Nat.le_of_ble_eq_true rfl, Nat.le_of_ble_eq_true rfl⟩
theorem cw_X8_stand_X8_isHail_142 {s : State} {args : Array Value} (hts : ∀ x ∈ wsX8_stand, x.before args s = true) : CallW rmX8_stand s args RX8 RX8 142 yX8_isHail cX8_isHail 2 (some .boolean) wsX8_isHail rmX8_isHail 0 0 1 := cwV 1 hts gX8_stand_X8_isHail rfl rfl rfl (by decide +kernel) ⟨Nat.le_of_ble_eq_true rfl, Nat.le_of_ble_eq_true rfl⟩
set_option maxRecDepth 100000 in
set_option maxHeartbeats 4000000 in
theorem c_X8_stand (l : Launch) (D : va_G) (cI cZ cR : ClassId) (a_m : Nat) (a_m_told : Nat) (a_m_s : Nat) (a_m_text : Nat) (a_m_draft : Nat) (a_m_past : Nat) (a_m_images : Nat) (a_m_kept : Nat) (a_m_notes : Nat) (a_m_noted : Nat) (a_m_held : Nat) (a_m_few : Nat) (m_trace : Int64) (m_typed : Int32) (m_known : Int32) (m_many : Int32) (m_at : Int32) (m_sort : Int32) (m_start : Int32) (m_value : Int32) (m_told : Nat → Int32) (m_s : Nat → Int32) (v1 : Int32) (out : Int32) (hf : f_X8_stand m_told m_s v1 = some out) : Ci l yX8_stand wsX8_stand rmX8_stand D cI cZ cR [.ref a_m, .int v1] [(a_m, .inr (8, [.long m_trace, .ref a_m_text, .int m_typed, .ref a_m_told, .ref a_m_draft, .ref a_m_s, .ref a_m_past, .int m_known, .ref a_m_images, .ref a_m_kept, .ref a_m_notes, .ref a_m_noted, .int m_many, .int m_at, .int m_sort, .int m_start, .int m_value, .ref a_m_held, .ref a_m_few])), (a_m_told, .inl (cI, 33, .inl m_told)), (a_m_s, .inl (cI, 51, .inl m_s))] out [(a_m, .inr (8, [.long m_trace, .ref a_m_text, .int m_typed, .ref a_m_told, .ref a_m_draft, .ref a_m_s, .ref a_m_past, .int m_known, .ref a_m_images, .ref a_m_kept, .ref a_m_notes, .ref a_m_noted, .int m_many, .int m_at, .int m_sort, .int m_start, .int m_value, .ref a_m_held, .ref a_m_few])), (a_m_told, .inl (cI, 33, .inl m_told)), (a_m_s, .inl (cI, 51, .inl m_s))] := by
  refine ent_i (cc := cX8_stand) (maxL := 5) .boolean (by decide) rfl (Nat.le_of_ble_eq_true rfl) ?_
  intro p e s m below meth c A Q hx hb hml hown hts hE hA hP hD hS hret ls hl
  have hown : s.vm.findClass RX8 = some m.cls := hown
  have hl : lv_has ls 5 [(0, .ref a_m), (1, .int v1)] := hl
  have fL13 := hts (.fieldLink RX8 13 "RainShelvesModel" "told" "[I") (List.mem_of_getElem? (i := 1) rfl)
  unfold f_X8_stand at hf
  have J60 : ∀ (v2_60 : Int32) (v3_60 : Int32), f_X8_stand_J60 m_told v2_60 v3_60 = some out → ∀ (H : Heap) (locs : List Loc) (ls : Array Slot), PD D A [(a_m, .inr (8, [.long m_trace, .ref a_m_text, .int m_typed, .ref a_m_told, .ref a_m_draft, .ref a_m_s, .ref a_m_past, .int m_known, .ref a_m_images, .ref a_m_kept, .ref a_m_notes, .ref a_m_noted, .int m_many, .int m_at, .int m_sort, .int m_start, .int m_value, .ref a_m_held, .ref a_m_few])), (a_m_told, .inl (cI, 33, .inl m_told)), (a_m_s, .inl (cI, 51, .inl m_s))] H → va_S A s.heap H locs → lv_has ls 5 [(0, .ref a_m), (2, .int v2_60), (3, .int v3_60)] → W p l e rmX8_stand s m ([.ref a_m, .int v1] : List Value).toArray below meth c H locs 0 0 Q (F0 m 60 ls []) := by
    intro v2_60 v3_60 hf H locs ls hPD hS hl
    obtain ⟨hP, hD⟩ := hPD
    unfold f_X8_stand_J60 at hf
    refine lv_iload_n hx hb dX8_stand_60 rfl (lv_at hl 1 rfl) ?_
    refine lv_aload_n hx hb dX8_stand_61 rfl (lv_at hl 0 rfl) ?_
    refine va_get (D := D) (ci := 8) (v := .ref a_m_told) (C := RX8) (T := TX8) (N := 19) hx hb hts hiX8_stand_8 hown hE.1 hP 0 rfl rfl 3 (by decide) fL13 (fun _ h9 => h9) rfl dX8_stand_62 ?_
    refine lv_iconst (v := 2) hx hb dX8_stand_65 (by decide) ?_
    obtain ⟨hc1, hf⟩ := ck_some hf
    refine va_iald hx hb hE.1 hP 1 0 rfl rfl (ix_in hc1) dX8_stand_66 ?_
    refine lv_icmp_gt (tgt := 79) hx hb dX8_stand_67 (by decide) (fun hc2 => ?_) (fun hc2 => ?_)
    · have hf := if_t hf hc2
      refine lv_iconst (v := 0) hx hb dX8_stand_79 (by decide) ?_
      have he := Option.some.inj hf
      subst he
      exact hret _ _ _ _ dX8_stand_80 bn0 hP hD hS
    · have hf := if_f hf hc2
      refine lv_iload_n hx hb dX8_stand_70 rfl (lv_at hl 2 rfl) ?_
      refine lv_iconst (v := 3) hx hb dX8_stand_71 (by decide) ?_
      refine lv_icmp_eq (tgt := 79) hx hb dX8_stand_72 (by decide) (fun hc3 => ?_) (fun hc3 => ?_)
      · have hf := if_t hf hc3
        refine lv_iconst (v := 0) hx hb dX8_stand_79 (by decide) ?_
        have he := Option.some.inj hf
        subst he
        exact hret _ _ _ _ dX8_stand_80 bn0 hP hD hS
      · have hf := if_f hf hc3
        refine lv_iconst (v := 1) hx hb dX8_stand_75 (by decide) ?_
        refine lv_goto (tgt := 80) hx hb dX8_stand_76 (by decide) ?_
        have he := Option.some.inj hf
        subst he
        exact hret _ _ _ _ dX8_stand_80 bn1 hP hD hS
  have L7 : ∀ (n7 : Nat) (v2_7 : Int32) (v3_7 : Int32) (v4_7 : Int32), f_X8_stand_L7 m_told m_s v1 n7 v2_7 v3_7 v4_7 = some out → ∀ (H : Heap) (locs : List Loc) (ls : Array Slot), PD D A [(a_m, .inr (8, [.long m_trace, .ref a_m_text, .int m_typed, .ref a_m_told, .ref a_m_draft, .ref a_m_s, .ref a_m_past, .int m_known, .ref a_m_images, .ref a_m_kept, .ref a_m_notes, .ref a_m_noted, .int m_many, .int m_at, .int m_sort, .int m_start, .int m_value, .ref a_m_held, .ref a_m_few])), (a_m_told, .inl (cI, 33, .inl m_told)), (a_m_s, .inl (cI, 51, .inl m_s))] H → va_S A s.heap H locs → lv_has ls 5 [(0, .ref a_m), (1, .int v1), (2, .int v2_7), (3, .int v3_7), (4, .int v4_7)] → W p l e rmX8_stand s m ([.ref a_m, .int v1] : List Value).toArray below meth c H locs 0 0 Q (F0 m 7 ls []) := by
    intro  n7
    induction n7 with
    | zero => intro v2_7 v3_7 v4_7 hf; cases hf
    | succ n7 ih7 =>
      intro v2_7 v3_7 v4_7 hf H locs ls hPD hS hl
      obtain ⟨hP, hD⟩ := hPD
      have hf : f_X8_stand_B7 m_told m_s v1 (f_X8_stand_L7 m_told m_s v1 n7) v2_7 v3_7 v4_7 = some out := hf
      unfold f_X8_stand_B7 at hf
      refine lv_iload hx hb dX8_stand_7 (lv_at hl 4 rfl) ?_
      refine lv_aload_n hx hb dX8_stand_9 rfl (lv_at hl 0 rfl) ?_
      refine va_get (D := D) (ci := 8) (v := .ref a_m_told) (C := RX8) (T := TX8) (N := 19) hx hb hts hiX8_stand_8 hown hE.1 hP 0 rfl rfl 3 (by decide) fL13 (fun _ h9 => h9) rfl dX8_stand_10 ?_
      refine lv_iconst (v := 0) hx hb dX8_stand_13 (by decide) ?_
      obtain ⟨hc4, hf⟩ := ck_some hf
      refine va_iald hx hb hE.1 hP 1 0 rfl rfl (ix_in hc4) dX8_stand_14 ?_
      refine lv_icmp_ge (tgt := 60) hx hb dX8_stand_15 (by decide) (fun hc5 => ?_) (fun hc5 => ?_)
      · have hf := if_t hf hc5
        exact J60 v2_7 v3_7 hf _ _ _ ⟨hP, hD⟩ hS (lv_sub hl [0, 2, 3] rfl)
      · have hf := if_f hf hc5
        refine lv_iload_n hx hb dX8_stand_18 rfl (lv_at hl 1 rfl) ?_
        refine lv_iload hx hb dX8_stand_19 (lv_at hl 4 rfl) ?_
        refine lv_ishr hx hb dX8_stand_21 ?_
        refine lv_iconst (v := 1) hx hb dX8_stand_22 (by decide) ?_
        refine lv_iand hx hb dX8_stand_23 ?_
        refine lv_iconst (v := 1) hx hb dX8_stand_24 (by decide) ?_
        refine lv_icmp_ne (tgt := 54) hx hb dX8_stand_25 (by decide) (fun hc6 => ?_) (fun hc6 => ?_)
        · have hf := if_f hf hc6
          refine lv_iinc (v := (v4_7 + 1)) (lv' := [(4, .int (v4_7 + 1)), (0, .ref a_m), (1, .int v1), (2, .int v2_7), (3, .int v3_7)]) hx hb dX8_stand_54 hl (k := 4) rfl (ii_p1 _) (by decide) rfl (fun ls hl => ?_)
          refine lv_goto (tgt := 7) hx hb dX8_stand_57 (by decide) ?_
          exact ih7 v2_7 v3_7 (v4_7 + 1) hf _ _ _ ⟨hP, hD⟩ hS (lv_sub hl [1, 2, 3, 4, 0] rfl)
        · have hf := if_t hf hc6
          refine lv_iload_n hx hb dX8_stand_28 rfl (lv_at hl 2 rfl) ?_
          refine lv_aload_n hx hb dX8_stand_29 rfl (lv_at hl 0 rfl) ?_
          refine lv_iload hx hb dX8_stand_30 (lv_at hl 4 rfl) ?_
          obtain ⟨u1, hu1, hf⟩ := bd_some hf
          refine cl_iV (As := [.int v4_7]) (rest := [.int v2_7]) ⟨hx, hb, hml, hown, hts⟩ (c_X8_full l D cI cZ cR a_m a_m_s a_m_text a_m_told a_m_draft a_m_past a_m_images a_m_kept a_m_notes a_m_noted a_m_held a_m_few m_trace m_typed m_known m_many m_at m_sort m_start m_value m_s v4_7 u1 hu1) (cw_X8_stand_X8_full_98 hts) hE hP hD hS hA [0, 2] rfl rfl [a_m, a_m_s] rfl rfl 0 8 rfl rfl rfl hl.1 rfl (Nat.le_of_ble_eq_true rfl) dX8_stand_32 ⟨Nat.zero_le _, Nat.zero_le _⟩ (fun H locs hP hD hS => ?_)
          have hPD : PD D A [(a_m, .inr (8, [.long m_trace, .ref a_m_text, .int m_typed, .ref a_m_told, .ref a_m_draft, .ref a_m_s, .ref a_m_past, .int m_known, .ref a_m_images, .ref a_m_kept, .ref a_m_notes, .ref a_m_noted, .int m_many, .int m_at, .int m_sort, .int m_start, .int m_value, .ref a_m_held, .ref a_m_few])), (a_m_told, .inl (cI, 33, .inl m_told)), (a_m_s, .inl (cI, 51, .inl m_s))] H := ⟨hP, hD⟩
          obtain ⟨hP, hD⟩ := hPD
          refine lv_iadd hx hb dX8_stand_35 ?_
          refine lv_istore_n (lv' := [(2, .int (v2_7 + u1)), (0, .ref a_m), (1, .int v1), (3, .int v3_7), (4, .int v4_7)]) hx hb dX8_stand_36 rfl hl (by decide) rfl (fun ls hl => ?_)
          refine lv_iload_n hx hb dX8_stand_37 rfl (lv_at hl 3 rfl) ?_
          refine lv_aload_n hx hb dX8_stand_38 rfl (lv_at hl 1 rfl) ?_
          refine lv_iload hx hb dX8_stand_39 (lv_at hl 4 rfl) ?_
          obtain ⟨u2, hu2, hf⟩ := bd_some hf
          refine cl_iV (As := [.int v4_7]) (rest := [.int v3_7]) ⟨hx, hb, hml, hown, hts⟩ (c_X8_isHail l D cI cZ cR a_m a_m_told a_m_text a_m_draft a_m_s a_m_past a_m_images a_m_kept a_m_notes a_m_noted a_m_held a_m_few m_trace m_typed m_known m_many m_at m_sort m_start m_value m_told v4_7 u2 hu2) (cw_X8_stand_X8_isHail_142 hts) hE hP hD hS hA [0, 1] rfl rfl [a_m, a_m_told] rfl rfl 0 8 rfl rfl rfl hl.1 rfl (Nat.le_of_ble_eq_true rfl) dX8_stand_41 ⟨Nat.zero_le _, Nat.zero_le _⟩ (fun H locs hP hD hS => ?_)
          have hPD : PD D A [(a_m, .inr (8, [.long m_trace, .ref a_m_text, .int m_typed, .ref a_m_told, .ref a_m_draft, .ref a_m_s, .ref a_m_past, .int m_known, .ref a_m_images, .ref a_m_kept, .ref a_m_notes, .ref a_m_noted, .int m_many, .int m_at, .int m_sort, .int m_start, .int m_value, .ref a_m_held, .ref a_m_few])), (a_m_told, .inl (cI, 33, .inl m_told)), (a_m_s, .inl (cI, 51, .inl m_s))] H := ⟨hP, hD⟩
          obtain ⟨hP, hD⟩ := hPD
          refine lv_if_eq (tgt := 51) hx hb dX8_stand_44 (by decide) (fun hc7 => ?_) (fun hc7 => ?_)
          · have hf := if_t hf hc7
            refine lv_iconst (v := 1) hx hb dX8_stand_51 (by decide) ?_
            refine lv_ior hx hb dX8_stand_52 ?_
            refine lv_istore_n (lv' := [(3, .int (v3_7 ||| 1)), (2, .int (v2_7 + u1)), (0, .ref a_m), (1, .int v1), (4, .int v4_7)]) hx hb dX8_stand_53 rfl hl (by decide) rfl (fun ls hl => ?_)
            refine lv_iinc (v := (v4_7 + 1)) (lv' := [(4, .int (v4_7 + 1)), (3, .int (v3_7 ||| 1)), (2, .int (v2_7 + u1)), (0, .ref a_m), (1, .int v1)]) hx hb dX8_stand_54 hl (k := 4) rfl (ii_p1 _) (by decide) rfl (fun ls hl => ?_)
            refine lv_goto (tgt := 7) hx hb dX8_stand_57 (by decide) ?_
            exact ih7 (v2_7 + u1) (v3_7 ||| 1) (v4_7 + 1) hf _ _ _ ⟨hP, hD⟩ hS (lv_sub hl [3, 4, 2, 1, 0] rfl)
          · have hf := if_f hf hc7
            refine lv_iconst (v := 2) hx hb dX8_stand_47 (by decide) ?_
            refine lv_goto (tgt := 52) hx hb dX8_stand_48 (by decide) ?_
            refine lv_ior hx hb dX8_stand_52 ?_
            refine lv_istore_n (lv' := [(3, .int (v3_7 ||| 2)), (2, .int (v2_7 + u1)), (0, .ref a_m), (1, .int v1), (4, .int v4_7)]) hx hb dX8_stand_53 rfl hl (by decide) rfl (fun ls hl => ?_)
            refine lv_iinc (v := (v4_7 + 1)) (lv' := [(4, .int (v4_7 + 1)), (3, .int (v3_7 ||| 2)), (2, .int (v2_7 + u1)), (0, .ref a_m), (1, .int v1)]) hx hb dX8_stand_54 hl (k := 4) rfl (ii_p1 _) (by decide) rfl (fun ls hl => ?_)
            refine lv_goto (tgt := 7) hx hb dX8_stand_57 (by decide) ?_
            exact ih7 (v2_7 + u1) (v3_7 ||| 2) (v4_7 + 1) hf _ _ _ ⟨hP, hD⟩ hS (lv_sub hl [3, 4, 2, 1, 0] rfl)
  refine lv_iconst (v := 0) hx hb dX8_stand_0 (by decide) ?_
  refine lv_istore_n (lv' := [(2, .int 0), (0, .ref a_m), (1, .int v1)]) hx hb dX8_stand_1 rfl hl (by decide) rfl (fun ls hl => ?_)
  refine lv_iconst (v := 0) hx hb dX8_stand_2 (by decide) ?_
  refine lv_istore_n (lv' := [(3, .int 0), (2, .int 0), (0, .ref a_m), (1, .int v1)]) hx hb dX8_stand_3 rfl hl (by decide) rfl (fun ls hl => ?_)
  refine lv_iconst (v := 0) hx hb dX8_stand_4 (by decide) ?_
  refine lv_istore (lv' := [(4, .int 0), (3, .int 0), (2, .int 0), (0, .ref a_m), (1, .int v1)]) hx hb dX8_stand_5 hl (by decide) rfl (fun ls hl => ?_)
  exact L7  FU 0 0 0 hf _ _ _ ⟨hP, hD⟩ hS (lv_sub hl [3, 4, 2, 1, 0] rfl)
abbrev rmX8_shelves : Room := { frames := 2, cells := 0, slots := 0, locals := 47 }
theorem hiX8_shelves_8 : ∀ w ∈ wsX80, w ∈ wsX8_shelves := fun w h => (goodIn_r (big := wsX8_shelves) wsX80 [17, 18, 19, 20, 21, 22, 23, 24, 25, 26, 27, 28, 29, 30, 31, 32, 33, 34, 35] rfl (by decide +kernel) w h).1
theorem cw_X8_shelves_X8_stand_145 {s : State} {args : Array Value} (hts : ∀ x ∈ wsX8_shelves, x.before args s = true) : CallW rmX8_shelves s args RX8 RX8 145 yX8_stand cX8_stand 5 (some .boolean) wsX8_stand rmX8_stand 0 0 1 := cwV 1 hts gX8_shelves_X8_stand rfl rfl rfl (by decide +kernel) ⟨Nat.le_of_ble_eq_true rfl, Nat.le_of_ble_eq_true rfl⟩
theorem cw_X8_shelves_X8_full_98 {s : State} {args : Array Value} (hts : ∀ x ∈ wsX8_shelves, x.before args s = true) : CallW rmX8_shelves s args RX8 RX8 98 yX8_full cX8_full 4 (some .int) wsX8_full rmX8_full 0 0 1 := cwV 1 hts gX8_shelves_X8_full rfl rfl rfl (by decide +kernel) ⟨Nat.le_of_ble_eq_true rfl, Nat.le_of_ble_eq_true rfl⟩
set_option maxRecDepth 100000 in
set_option maxHeartbeats 4000000 in
theorem c_X8_shelves (l : Launch) (D : va_G) (cI cZ cR : ClassId) (a_m : Nat) (a_m_told : Nat) (a_m_s : Nat) (a_m_few : Nat) (a_m_text : Nat) (a_m_draft : Nat) (a_m_past : Nat) (a_m_images : Nat) (a_m_kept : Nat) (a_m_notes : Nat) (a_m_noted : Nat) (a_m_held : Nat) (m_trace : Int64) (m_typed : Int32) (m_known : Int32) (m_many : Int32) (m_at : Int32) (m_sort : Int32) (m_start : Int32) (m_value : Int32) (m_told : Nat → Int32) (m_s : Nat → Int32) (m_few : Nat → Int32) (out : Int32 × (Nat → Int32)) (hf : f_X8_shelves m_told m_s m_few = some out) : Ci l yX8_shelves wsX8_shelves rmX8_shelves D cI cZ cR [.ref a_m] [(a_m, .inr (8, [.long m_trace, .ref a_m_text, .int m_typed, .ref a_m_told, .ref a_m_draft, .ref a_m_s, .ref a_m_past, .int m_known, .ref a_m_images, .ref a_m_kept, .ref a_m_notes, .ref a_m_noted, .int m_many, .int m_at, .int m_sort, .int m_start, .int m_value, .ref a_m_held, .ref a_m_few])), (a_m_told, .inl (cI, 33, .inl m_told)), (a_m_s, .inl (cI, 51, .inl m_s)), (a_m_few, .inl (cI, 128, .inl m_few))] out.1 [(a_m, .inr (8, [.long m_trace, .ref a_m_text, .int m_typed, .ref a_m_told, .ref a_m_draft, .ref a_m_s, .ref a_m_past, .int m_known, .ref a_m_images, .ref a_m_kept, .ref a_m_notes, .ref a_m_noted, .int m_many, .int m_at, .int m_sort, .int m_start, .int m_value, .ref a_m_held, .ref a_m_few])), (a_m_told, .inl (cI, 33, .inl m_told)), (a_m_s, .inl (cI, 51, .inl m_s)), (a_m_few, .inl (cI, 128, .inl out.2))] := by
  refine ent_i (cc := cX8_shelves) (maxL := 5) .int (by decide) rfl (Nat.le_of_ble_eq_true rfl) ?_
  intro p e s m below meth c A Q hx hb hml hown hts hE hA hP hD hS hret ls hl
  have hown : s.vm.findClass RX8 = some m.cls := hown
  have hl : lv_has ls 5 [(0, .ref a_m)] := hl
  have fL13 := hts (.fieldLink RX8 13 "RainShelvesModel" "told" "[I") (List.mem_of_getElem? (i := 1) rfl)
  have fL41 := hts (.fieldLink RX8 41 "RainShelvesModel" "few" "[I") (List.mem_of_getElem? (i := 2) rfl)
  unfold f_X8_shelves at hf
  have J178 : ∀ (v1_178 : Int32) (m_few_178 : Nat → Int32), f_X8_shelves_J178 v1_178 m_few_178 = some out → ∀ (H : Heap) (locs : List Loc) (ls : Array Slot), PD D A [(a_m, .inr (8, [.long m_trace, .ref a_m_text, .int m_typed, .ref a_m_told, .ref a_m_draft, .ref a_m_s, .ref a_m_past, .int m_known, .ref a_m_images, .ref a_m_kept, .ref a_m_notes, .ref a_m_noted, .int m_many, .int m_at, .int m_sort, .int m_start, .int m_value, .ref a_m_held, .ref a_m_few])), (a_m_told, .inl (cI, 33, .inl m_told)), (a_m_s, .inl (cI, 51, .inl m_s)), (a_m_few, .inl (cI, 128, .inl m_few_178))] H → va_S A s.heap H locs → lv_has ls 5 [(0, .ref a_m), (1, .int v1_178)] → W p l e rmX8_shelves s m ([.ref a_m] : List Value).toArray below meth c H locs 0 0 Q (F0 m 178 ls []) := by
    intro v1_178 m_few_178 hf H locs ls hPD hS hl
    obtain ⟨hP, hD⟩ := hPD
    unfold f_X8_shelves_J178 at hf
    refine lv_aload_n hx hb dX8_shelves_178 rfl (lv_at hl 0 rfl) ?_
    refine va_get (D := D) (ci := 8) (v := .ref a_m_few) (C := RX8) (T := TX8) (N := 19) hx hb hts hiX8_shelves_8 hown hE.1 hP 0 rfl rfl 18 (by decide) fL41 (fun _ h9 => h9) rfl dX8_shelves_179 ?_
    refine lv_iload_n hx hb dX8_shelves_182 rfl (lv_at hl 1 rfl) ?_
    obtain ⟨hc1, hf⟩ := ck_some hf
    refine va_iald hx hb hE.1 hP 3 0 rfl rfl (ix_in hc1) dX8_shelves_183 ?_
    refine lv_bipush (v := 99) hx hb dX8_shelves_184 (by decide) ?_
    refine lv_icmp_ne (tgt := 194) hx hb dX8_shelves_186 (by decide) (fun hc2 => ?_) (fun hc2 => ?_)
    · have hf := if_f hf hc2
      refine lv_aload_n hx hb dX8_shelves_194 rfl (lv_at hl 0 rfl) ?_
      refine va_get (D := D) (ci := 8) (v := .ref a_m_few) (C := RX8) (T := TX8) (N := 19) hx hb hts hiX8_shelves_8 hown hE.1 hP 0 rfl rfl 18 (by decide) fL41 (fun _ h9 => h9) rfl dX8_shelves_195 ?_
      refine lv_iload_n hx hb dX8_shelves_198 rfl (lv_at hl 1 rfl) ?_
      obtain ⟨hc3, hf⟩ := ck_some hf
      refine va_iald hx hb hE.1 hP 3 0 rfl rfl (ix_in hc3) dX8_shelves_199 ?_
      have he := Option.some.inj hf
      subst he
      exact hret _ _ _ _ dX8_shelves_200 rfl hP hD hS
    · have hf := if_t hf hc2
      refine lv_bipush (v := (-9)) hx hb dX8_shelves_189 (by decide) ?_
      refine lv_goto (tgt := 200) hx hb dX8_shelves_191 (by decide) ?_
      have he := Option.some.inj hf
      subst he
      exact hret _ _ _ _ dX8_shelves_200 rfl hP hD hS
  have L40 : ∀ (v1_40 : Int32) (n40 : Nat) (v2_40 : Int32) (m_few_40 : Nat → Int32), f_X8_shelves_L40 m_told m_s v1_40 n40 v2_40 m_few_40 = some out → ∀ (H : Heap) (locs : List Loc) (ls : Array Slot), PD D A [(a_m, .inr (8, [.long m_trace, .ref a_m_text, .int m_typed, .ref a_m_told, .ref a_m_draft, .ref a_m_s, .ref a_m_past, .int m_known, .ref a_m_images, .ref a_m_kept, .ref a_m_notes, .ref a_m_noted, .int m_many, .int m_at, .int m_sort, .int m_start, .int m_value, .ref a_m_held, .ref a_m_few])), (a_m_told, .inl (cI, 33, .inl m_told)), (a_m_s, .inl (cI, 51, .inl m_s)), (a_m_few, .inl (cI, 128, .inl m_few_40))] H → va_S A s.heap H locs → lv_has ls 5 [(0, .ref a_m), (1, .int v1_40), (2, .int v2_40)] → W p l e rmX8_shelves s m ([.ref a_m] : List Value).toArray below meth c H locs 0 0 Q (F0 m 40 ls []) := by
    intro v1_40 n40
    induction n40 with
    | zero => intro v2_40 m_few_40 hf; cases hf
    | succ n40 ih40 =>
      intro v2_40 m_few_40 hf H locs ls hPD hS hl
      obtain ⟨hP, hD⟩ := hPD
      have hf : f_X8_shelves_B40 m_told m_s v1_40 (f_X8_shelves_L40 m_told m_s v1_40 n40) v2_40 m_few_40 = some out := hf
      unfold f_X8_shelves_B40 at hf
      have L70 : ∀ (n70 : Nat) (v3_70 : Int32) (m_few_70 : Nat → Int32), f_X8_shelves_L70 m_told m_s v2_40 (f_X8_shelves_L40 m_told m_s v1_40 n40) n70 v3_70 m_few_70 = some out → ∀ (H : Heap) (locs : List Loc) (ls : Array Slot), PD D A [(a_m, .inr (8, [.long m_trace, .ref a_m_text, .int m_typed, .ref a_m_told, .ref a_m_draft, .ref a_m_s, .ref a_m_past, .int m_known, .ref a_m_images, .ref a_m_kept, .ref a_m_notes, .ref a_m_noted, .int m_many, .int m_at, .int m_sort, .int m_start, .int m_value, .ref a_m_held, .ref a_m_few])), (a_m_told, .inl (cI, 33, .inl m_told)), (a_m_s, .inl (cI, 51, .inl m_s)), (a_m_few, .inl (cI, 128, .inl m_few_70))] H → va_S A s.heap H locs → lv_has ls 5 [(0, .ref a_m), (1, .int v1_40), (2, .int v2_40), (3, .int v3_70)] → W p l e rmX8_shelves s m ([.ref a_m] : List Value).toArray below meth c H locs 0 0 Q (F0 m 70 ls []) := by
        intro  n70
        induction n70 with
        | zero => intro v3_70 m_few_70 hf; cases hf
        | succ n70 ih70 =>
          intro v3_70 m_few_70 hf H locs ls hPD hS hl
          obtain ⟨hP, hD⟩ := hPD
          have hf : f_X8_shelves_B70 m_told m_s v2_40 (f_X8_shelves_L40 m_told m_s v1_40 n40) (f_X8_shelves_L70 m_told m_s v2_40 (f_X8_shelves_L40 m_told m_s v1_40 n40) n70) v3_70 m_few_70 = some out := hf
          unfold f_X8_shelves_B70 at hf
          have J159 : ∀ (s1_159 : Int32), f_X8_shelves_J159 v2_40 v3_70 m_few_70 (f_X8_shelves_L70 m_told m_s v2_40 (f_X8_shelves_L40 m_told m_s v1_40 n40) n70) s1_159 = some out → ∀ (H : Heap) (locs : List Loc) (ls : Array Slot), PD D A [(a_m, .inr (8, [.long m_trace, .ref a_m_text, .int m_typed, .ref a_m_told, .ref a_m_draft, .ref a_m_s, .ref a_m_past, .int m_known, .ref a_m_images, .ref a_m_kept, .ref a_m_notes, .ref a_m_noted, .int m_many, .int m_at, .int m_sort, .int m_start, .int m_value, .ref a_m_held, .ref a_m_few])), (a_m_told, .inl (cI, 33, .inl m_told)), (a_m_s, .inl (cI, 51, .inl m_s)), (a_m_few, .inl (cI, 128, .inl m_few_70))] H → va_S A s.heap H locs → lv_has ls 5 [(0, .ref a_m), (1, .int v1_40), (2, .int v2_40), (3, .int v3_70)] → W p l e rmX8_shelves s m ([.ref a_m] : List Value).toArray below meth c H locs 0 0 Q (F0 m 159 ls [.int s1_159, .ref a_m_few]) := by
            intro s1_159 hf H locs ls hPD hS hl
            obtain ⟨hP, hD⟩ := hPD
            unfold f_X8_shelves_J159 at hf
            refine lv_aload_n hx hb dX8_shelves_159 rfl (lv_at hl 0 rfl) ?_
            refine va_get (D := D) (ci := 8) (v := .ref a_m_few) (C := RX8) (T := TX8) (N := 19) hx hb hts hiX8_shelves_8 hown hE.1 hP 0 rfl rfl 18 (by decide) fL41 (fun _ h9 => h9) rfl dX8_shelves_160 ?_
            refine lv_iload_n hx hb dX8_shelves_163 rfl (lv_at hl 2 rfl) ?_
            obtain ⟨hc4, hf⟩ := ck_some hf
            refine va_iald hx hb hE.1 hP 3 0 rfl rfl (ix_in hc4) dX8_shelves_164 ?_
            obtain ⟨hc5, hf⟩ := ck_some hf
            refine va_iast hx hb hE.1 hP hD hS 3 0 rfl rfl (ix_in hc5) dX8_shelves_165 (fun H locs hP hD hS => ?_)
            have hPD : PD D A [(a_m, .inr (8, [.long m_trace, .ref a_m_text, .int m_typed, .ref a_m_told, .ref a_m_draft, .ref a_m_s, .ref a_m_past, .int m_known, .ref a_m_images, .ref a_m_kept, .ref a_m_notes, .ref a_m_noted, .int m_many, .int m_at, .int m_sort, .int m_start, .int m_value, .ref a_m_held, .ref a_m_few])), (a_m_told, .inl (cI, 33, .inl m_told)), (a_m_s, .inl (cI, 51, .inl m_s)), (a_m_few, .inl (cI, 128, .inl (upd m_few_70 s1_159.toNatClampNeg (m_few_70 v2_40.toNatClampNeg))))] H := ⟨hP, hD⟩
            obtain ⟨hP, hD⟩ := hPD
            refine lv_iinc (v := (v3_70 + 1)) (lv' := [(3, .int (v3_70 + 1)), (0, .ref a_m), (1, .int v1_40), (2, .int v2_40)]) hx hb dX8_shelves_166 hl (k := 3) rfl (ii_p1 _) (by decide) rfl (fun ls hl => ?_)
            refine lv_goto (tgt := 70) hx hb dX8_shelves_169 (by decide) ?_
            exact ih70 (v3_70 + 1) (upd m_few_70 s1_159.toNatClampNeg (m_few_70 v2_40.toNatClampNeg)) hf _ _ _ ⟨hP, hD⟩ hS (lv_sub hl [1, 2, 3, 0] rfl)
          have J111 : ∀ (s0_111 : Int32), f_X8_shelves_J111 v2_40 v3_70 m_few_70 (f_X8_shelves_L70 m_told m_s v2_40 (f_X8_shelves_L40 m_told m_s v1_40 n40) n70) s0_111 = some out → ∀ (H : Heap) (locs : List Loc) (ls : Array Slot), PD D A [(a_m, .inr (8, [.long m_trace, .ref a_m_text, .int m_typed, .ref a_m_told, .ref a_m_draft, .ref a_m_s, .ref a_m_past, .int m_known, .ref a_m_images, .ref a_m_kept, .ref a_m_notes, .ref a_m_noted, .int m_many, .int m_at, .int m_sort, .int m_start, .int m_value, .ref a_m_held, .ref a_m_few])), (a_m_told, .inl (cI, 33, .inl m_told)), (a_m_s, .inl (cI, 51, .inl m_s)), (a_m_few, .inl (cI, 128, .inl m_few_70))] H → va_S A s.heap H locs → lv_has ls 5 [(0, .ref a_m), (1, .int v1_40), (2, .int v2_40), (3, .int v3_70)] → W p l e rmX8_shelves s m ([.ref a_m] : List Value).toArray below meth c H locs 0 0 Q (F0 m 111 ls [.int s0_111]) := by
            intro s0_111 hf H locs ls hPD hS hl
            obtain ⟨hP, hD⟩ := hPD
            unfold f_X8_shelves_J111 at hf
            refine lv_istore (lv' := [(4, .int s0_111), (0, .ref a_m), (1, .int v1_40), (2, .int v2_40), (3, .int v3_70)]) hx hb dX8_shelves_111 hl (by decide) rfl (fun ls hl => ?_)
            refine lv_aload_n hx hb dX8_shelves_113 rfl (lv_at hl 1 rfl) ?_
            refine va_get (D := D) (ci := 8) (v := .ref a_m_few) (C := RX8) (T := TX8) (N := 19) hx hb hts hiX8_shelves_8 hown hE.1 hP 0 rfl rfl 18 (by decide) fL41 (fun _ h9 => h9) rfl dX8_shelves_114 ?_
            refine lv_iload_n hx hb dX8_shelves_117 rfl (lv_at hl 3 rfl) ?_
            refine lv_iload hx hb dX8_shelves_118 (lv_at hl 0 rfl) ?_
            refine lv_if_eq (tgt := 159) hx hb dX8_shelves_120 (by decide) (fun hc6 => ?_) (fun hc6 => ?_)
            · have hf := if_t hf hc6
              exact J159 v2_40 hf _ _ _ ⟨hP, hD⟩ hS (lv_sub hl [1, 2, 3, 4] rfl)
            · have hf := if_f hf hc6
              refine lv_aload_n hx hb dX8_shelves_123 rfl (lv_at hl 1 rfl) ?_
              refine va_get (D := D) (ci := 8) (v := .ref a_m_few) (C := RX8) (T := TX8) (N := 19) hx hb hts hiX8_shelves_8 hown hE.1 hP 0 rfl rfl 18 (by decide) fL41 (fun _ h9 => h9) rfl dX8_shelves_124 ?_
              refine lv_iload_n hx hb dX8_shelves_127 rfl (lv_at hl 3 rfl) ?_
              refine lv_iload_n hx hb dX8_shelves_128 rfl (lv_at hl 4 rfl) ?_
              refine lv_iconst (v := (-1)) hx hb dX8_shelves_129 (by decide) ?_
              refine lv_ixor hx hb dX8_shelves_130 ?_
              refine lv_iand hx hb dX8_shelves_131 ?_
              obtain ⟨hc7, hf⟩ := ck_some hf
              refine va_iald hx hb hE.1 hP 3 0 rfl rfl (ix_in hc7) dX8_shelves_132 ?_
              refine lv_iconst (v := 1) hx hb dX8_shelves_133 (by decide) ?_
              refine lv_iadd hx hb dX8_shelves_134 ?_
              refine lv_aload_n hx hb dX8_shelves_135 rfl (lv_at hl 1 rfl) ?_
              refine va_get (D := D) (ci := 8) (v := .ref a_m_few) (C := RX8) (T := TX8) (N := 19) hx hb hts hiX8_shelves_8 hown hE.1 hP 0 rfl rfl 18 (by decide) fL41 (fun _ h9 => h9) rfl dX8_shelves_136 ?_
              refine lv_iload_n hx hb dX8_shelves_139 rfl (lv_at hl 3 rfl) ?_
              obtain ⟨hc8, hf⟩ := ck_some hf
              refine va_iald hx hb hE.1 hP 3 0 rfl rfl (ix_in hc8) dX8_shelves_140 ?_
              refine lv_icmp_ge (tgt := 159) hx hb dX8_shelves_141 (by decide) (fun hc9 => ?_) (fun hc9 => ?_)
              · have hf := if_t hf hc9
                exact J159 v2_40 hf _ _ _ ⟨hP, hD⟩ hS (lv_sub hl [1, 2, 3, 4] rfl)
              · have hf := if_f hf hc9
                refine lv_aload_n hx hb dX8_shelves_144 rfl (lv_at hl 1 rfl) ?_
                refine va_get (D := D) (ci := 8) (v := .ref a_m_few) (C := RX8) (T := TX8) (N := 19) hx hb hts hiX8_shelves_8 hown hE.1 hP 0 rfl rfl 18 (by decide) fL41 (fun _ h9 => h9) rfl dX8_shelves_145 ?_
                refine lv_iload_n hx hb dX8_shelves_148 rfl (lv_at hl 3 rfl) ?_
                refine lv_iload_n hx hb dX8_shelves_149 rfl (lv_at hl 4 rfl) ?_
                refine lv_iconst (v := (-1)) hx hb dX8_shelves_150 (by decide) ?_
                refine lv_ixor hx hb dX8_shelves_151 ?_
                refine lv_iand hx hb dX8_shelves_152 ?_
                obtain ⟨hc10, hf⟩ := ck_some hf
                refine va_iald hx hb hE.1 hP 3 0 rfl rfl (ix_in hc10) dX8_shelves_153 ?_
                refine lv_iconst (v := 1) hx hb dX8_shelves_154 (by decide) ?_
                refine lv_iadd hx hb dX8_shelves_155 ?_
                refine lv_goto (tgt := 165) hx hb dX8_shelves_156 (by decide) ?_
                obtain ⟨hc11, hf⟩ := ck_some hf
                refine va_iast hx hb hE.1 hP hD hS 3 0 rfl rfl (ix_in hc11) dX8_shelves_165 (fun H locs hP hD hS => ?_)
                have hPD : PD D A [(a_m, .inr (8, [.long m_trace, .ref a_m_text, .int m_typed, .ref a_m_told, .ref a_m_draft, .ref a_m_s, .ref a_m_past, .int m_known, .ref a_m_images, .ref a_m_kept, .ref a_m_notes, .ref a_m_noted, .int m_many, .int m_at, .int m_sort, .int m_start, .int m_value, .ref a_m_held, .ref a_m_few])), (a_m_told, .inl (cI, 33, .inl m_told)), (a_m_s, .inl (cI, 51, .inl m_s)), (a_m_few, .inl (cI, 128, .inl (upd m_few_70 v2_40.toNatClampNeg ((m_few_70 (v2_40 &&& (v3_70 ^^^ (-1))).toNatClampNeg) + 1))))] H := ⟨hP, hD⟩
                obtain ⟨hP, hD⟩ := hPD
                refine lv_iinc (v := (v3_70 + 1)) (lv' := [(3, .int (v3_70 + 1)), (4, .int s0_111), (0, .ref a_m), (1, .int v1_40), (2, .int v2_40)]) hx hb dX8_shelves_166 hl (k := 4) rfl (ii_p1 _) (by decide) rfl (fun ls hl => ?_)
                refine lv_goto (tgt := 70) hx hb dX8_shelves_169 (by decide) ?_
                exact ih70 (v3_70 + 1) (upd m_few_70 v2_40.toNatClampNeg ((m_few_70 (v2_40 &&& (v3_70 ^^^ (-1))).toNatClampNeg) + 1)) hf _ _ _ ⟨hP, hD⟩ hS (lv_sub hl [2, 3, 4, 0] rfl)
          refine lv_iload_n hx hb dX8_shelves_70 rfl (lv_at hl 3 rfl) ?_
          refine lv_iload_n hx hb dX8_shelves_71 rfl (lv_at hl 2 rfl) ?_
          refine lv_icmp_gt (tgt := 172) hx hb dX8_shelves_72 (by decide) (fun hc12 => ?_) (fun hc12 => ?_)
          · have hf := if_t hf hc12
            refine lv_iinc (v := (v2_40 + 1)) (lv' := [(2, .int (v2_40 + 1)), (0, .ref a_m), (1, .int v1_40), (3, .int v3_70)]) hx hb dX8_shelves_172 hl (k := 2) rfl (ii_p1 _) (by decide) rfl (fun ls hl => ?_)
            refine lv_goto (tgt := 40) hx hb dX8_shelves_175 (by decide) ?_
            exact ih40 (v2_40 + 1) m_few_70 hf _ _ _ ⟨hP, hD⟩ hS (lv_sub hl [1, 2, 0] rfl)
          · have hf := if_f hf hc12
            refine lv_iload_n hx hb dX8_shelves_75 rfl (lv_at hl 3 rfl) ?_
            refine lv_iload_n hx hb dX8_shelves_76 rfl (lv_at hl 2 rfl) ?_
            refine lv_iconst (v := (-1)) hx hb dX8_shelves_77 (by decide) ?_
            refine lv_ixor hx hb dX8_shelves_78 ?_
            refine lv_iand hx hb dX8_shelves_79 ?_
            refine lv_if_ne (tgt := 110) hx hb dX8_shelves_80 (by decide) (fun hc13 => ?_) (fun hc13 => ?_)
            · have hf := if_f hf hc13
              refine lv_iconst (v := 0) hx hb dX8_shelves_110 (by decide) ?_
              exact J111 0 hf _ _ _ ⟨hP, hD⟩ hS hl
            · have hf := if_t hf hc13
              refine lv_aload_n hx hb dX8_shelves_83 rfl (lv_at hl 0 rfl) ?_
              refine va_get (D := D) (ci := 8) (v := .ref a_m_few) (C := RX8) (T := TX8) (N := 19) hx hb hts hiX8_shelves_8 hown hE.1 hP 0 rfl rfl 18 (by decide) fL41 (fun _ h9 => h9) rfl dX8_shelves_84 ?_
              refine lv_iload_n hx hb dX8_shelves_87 rfl (lv_at hl 2 rfl) ?_
              refine lv_iload_n hx hb dX8_shelves_88 rfl (lv_at hl 3 rfl) ?_
              refine lv_iconst (v := (-1)) hx hb dX8_shelves_89 (by decide) ?_
              refine lv_ixor hx hb dX8_shelves_90 ?_
              refine lv_iand hx hb dX8_shelves_91 ?_
              obtain ⟨hc14, hf⟩ := ck_some hf
              refine va_iald hx hb hE.1 hP 3 0 rfl rfl (ix_in hc14) dX8_shelves_92 ?_
              refine lv_bipush (v := 99) hx hb dX8_shelves_93 (by decide) ?_
              refine lv_icmp_ge (tgt := 110) hx hb dX8_shelves_95 (by decide) (fun hc15 => ?_) (fun hc15 => ?_)
              · have hf := if_t hf hc15
                refine lv_iconst (v := 0) hx hb dX8_shelves_110 (by decide) ?_
                exact J111 0 hf _ _ _ ⟨hP, hD⟩ hS hl
              · have hf := if_f hf hc15
                refine lv_aload_n hx hb dX8_shelves_98 rfl (lv_at hl 0 rfl) ?_
                refine lv_iload_n hx hb dX8_shelves_99 rfl (lv_at hl 3 rfl) ?_
                obtain ⟨u1, hu1, hf⟩ := bd_some hf
                refine cl_iV (As := [.int v3_70]) (rest := []) ⟨hx, hb, hml, hown, hts⟩ (c_X8_stand l D cI cZ cR a_m a_m_told a_m_s a_m_text a_m_draft a_m_past a_m_images a_m_kept a_m_notes a_m_noted a_m_held a_m_few m_trace m_typed m_known m_many m_at m_sort m_start m_value m_told m_s v3_70 u1 hu1) (cw_X8_shelves_X8_stand_145 hts) hE hP hD hS hA [0, 1, 2] rfl rfl [a_m, a_m_told, a_m_s] rfl rfl 0 8 rfl rfl rfl hl.1 rfl (Nat.le_of_ble_eq_true rfl) dX8_shelves_100 ⟨Nat.zero_le _, Nat.zero_le _⟩ (fun H locs hP hD hS => ?_)
                have hPD : PD D A [(a_m, .inr (8, [.long m_trace, .ref a_m_text, .int m_typed, .ref a_m_told, .ref a_m_draft, .ref a_m_s, .ref a_m_past, .int m_known, .ref a_m_images, .ref a_m_kept, .ref a_m_notes, .ref a_m_noted, .int m_many, .int m_at, .int m_sort, .int m_start, .int m_value, .ref a_m_held, .ref a_m_few])), (a_m_told, .inl (cI, 33, .inl m_told)), (a_m_s, .inl (cI, 51, .inl m_s)), (a_m_few, .inl (cI, 128, .inl m_few_70))] H := ⟨hP, hD⟩
                obtain ⟨hP, hD⟩ := hPD
                refine lv_if_eq (tgt := 110) hx hb dX8_shelves_103 (by decide) (fun hc16 => ?_) (fun hc16 => ?_)
                · have hf := if_t hf hc16
                  refine lv_iconst (v := 0) hx hb dX8_shelves_110 (by decide) ?_
                  exact J111 0 hf _ _ _ ⟨hP, hD⟩ hS hl
                · have hf := if_f hf hc16
                  refine lv_iconst (v := 1) hx hb dX8_shelves_106 (by decide) ?_
                  refine lv_goto (tgt := 111) hx hb dX8_shelves_107 (by decide) ?_
                  exact J111 1 hf _ _ _ ⟨hP, hD⟩ hS hl
      refine lv_iload_n hx hb dX8_shelves_40 rfl (lv_at hl 2 rfl) ?_
      refine lv_iconst (v := 1) hx hb dX8_shelves_41 (by decide) ?_
      refine lv_aload_n hx hb dX8_shelves_42 rfl (lv_at hl 0 rfl) ?_
      refine va_get (D := D) (ci := 8) (v := .ref a_m_told) (C := RX8) (T := TX8) (N := 19) hx hb hts hiX8_shelves_8 hown hE.1 hP 0 rfl rfl 3 (by decide) fL13 (fun _ h9 => h9) rfl dX8_shelves_43 ?_
      refine lv_iconst (v := 0) hx hb dX8_shelves_46 (by decide) ?_
      obtain ⟨hc17, hf⟩ := ck_some hf
      refine va_iald hx hb hE.1 hP 1 0 rfl rfl (ix_in hc17) dX8_shelves_47 ?_
      refine lv_ishl hx hb dX8_shelves_48 ?_
      refine lv_icmp_ge (tgt := 178) hx hb dX8_shelves_49 (by decide) (fun hc18 => ?_) (fun hc18 => ?_)
      · have hf := if_t hf hc18
        exact J178 v1_40 m_few_40 hf _ _ _ ⟨hP, hD⟩ hS (lv_sub hl [0, 1] rfl)
      · have hf := if_f hf hc18
        refine lv_aload_n hx hb dX8_shelves_52 rfl (lv_at hl 0 rfl) ?_
        refine va_get (D := D) (ci := 8) (v := .ref a_m_few) (C := RX8) (T := TX8) (N := 19) hx hb hts hiX8_shelves_8 hown hE.1 hP 0 rfl rfl 18 (by decide) fL41 (fun _ h9 => h9) rfl dX8_shelves_53 ?_
        refine lv_iload_n hx hb dX8_shelves_56 rfl (lv_at hl 2 rfl) ?_
        refine lv_iload_n hx hb dX8_shelves_57 rfl (lv_at hl 2 rfl) ?_
        refine lv_if_ne (tgt := 65) hx hb dX8_shelves_58 (by decide) (fun hc19 => ?_) (fun hc19 => ?_)
        · have hf := if_f hf hc19
          refine lv_bipush (v := 99) hx hb dX8_shelves_65 (by decide) ?_
          obtain ⟨hc20, hf⟩ := ck_some hf
          refine va_iast hx hb hE.1 hP hD hS 3 0 rfl rfl (ix_in hc20) dX8_shelves_67 (fun H locs hP hD hS => ?_)
          have hPD : PD D A [(a_m, .inr (8, [.long m_trace, .ref a_m_text, .int m_typed, .ref a_m_told, .ref a_m_draft, .ref a_m_s, .ref a_m_past, .int m_known, .ref a_m_images, .ref a_m_kept, .ref a_m_notes, .ref a_m_noted, .int m_many, .int m_at, .int m_sort, .int m_start, .int m_value, .ref a_m_held, .ref a_m_few])), (a_m_told, .inl (cI, 33, .inl m_told)), (a_m_s, .inl (cI, 51, .inl m_s)), (a_m_few, .inl (cI, 128, .inl (upd m_few_40 v2_40.toNatClampNeg 99)))] H := ⟨hP, hD⟩
          obtain ⟨hP, hD⟩ := hPD
          refine lv_iconst (v := 1) hx hb dX8_shelves_68 (by decide) ?_
          refine lv_istore_n (lv' := [(3, .int 1), (0, .ref a_m), (1, .int v1_40), (2, .int v2_40)]) hx hb dX8_shelves_69 rfl hl (by decide) rfl (fun ls hl => ?_)
          exact L70  FU 1 (upd m_few_40 v2_40.toNatClampNeg 99) hf _ _ _ ⟨hP, hD⟩ hS (lv_sub hl [1, 2, 3, 0] rfl)
        · have hf := if_t hf hc19
          refine lv_iconst (v := 0) hx hb dX8_shelves_61 (by decide) ?_
          refine lv_goto (tgt := 67) hx hb dX8_shelves_62 (by decide) ?_
          obtain ⟨hc21, hf⟩ := ck_some hf
          refine va_iast hx hb hE.1 hP hD hS 3 0 rfl rfl (ix_in hc21) dX8_shelves_67 (fun H locs hP hD hS => ?_)
          have hPD : PD D A [(a_m, .inr (8, [.long m_trace, .ref a_m_text, .int m_typed, .ref a_m_told, .ref a_m_draft, .ref a_m_s, .ref a_m_past, .int m_known, .ref a_m_images, .ref a_m_kept, .ref a_m_notes, .ref a_m_noted, .int m_many, .int m_at, .int m_sort, .int m_start, .int m_value, .ref a_m_held, .ref a_m_few])), (a_m_told, .inl (cI, 33, .inl m_told)), (a_m_s, .inl (cI, 51, .inl m_s)), (a_m_few, .inl (cI, 128, .inl (upd m_few_40 v2_40.toNatClampNeg 0)))] H := ⟨hP, hD⟩
          obtain ⟨hP, hD⟩ := hPD
          refine lv_iconst (v := 1) hx hb dX8_shelves_68 (by decide) ?_
          refine lv_istore_n (lv' := [(3, .int 1), (0, .ref a_m), (1, .int v1_40), (2, .int v2_40)]) hx hb dX8_shelves_69 rfl hl (by decide) rfl (fun ls hl => ?_)
          exact L70  FU 1 (upd m_few_40 v2_40.toNatClampNeg 0) hf _ _ _ ⟨hP, hD⟩ hS (lv_sub hl [1, 2, 3, 0] rfl)
  have L4 : ∀ (n4 : Nat) (v1_4 : Int32) (v2_4 : Int32), f_X8_shelves_L4 m_told m_s m_few n4 v1_4 v2_4 = some out → ∀ (H : Heap) (locs : List Loc) (ls : Array Slot), PD D A [(a_m, .inr (8, [.long m_trace, .ref a_m_text, .int m_typed, .ref a_m_told, .ref a_m_draft, .ref a_m_s, .ref a_m_past, .int m_known, .ref a_m_images, .ref a_m_kept, .ref a_m_notes, .ref a_m_noted, .int m_many, .int m_at, .int m_sort, .int m_start, .int m_value, .ref a_m_held, .ref a_m_few])), (a_m_told, .inl (cI, 33, .inl m_told)), (a_m_s, .inl (cI, 51, .inl m_s)), (a_m_few, .inl (cI, 128, .inl m_few))] H → va_S A s.heap H locs → lv_has ls 5 [(0, .ref a_m), (1, .int v1_4), (2, .int v2_4)] → W p l e rmX8_shelves s m ([.ref a_m] : List Value).toArray below meth c H locs 0 0 Q (F0 m 4 ls []) := by
    intro  n4
    induction n4 with
    | zero => intro v1_4 v2_4 hf; cases hf
    | succ n4 ih4 =>
      intro v1_4 v2_4 hf H locs ls hPD hS hl
      obtain ⟨hP, hD⟩ := hPD
      have hf : f_X8_shelves_B4 m_told m_s m_few (f_X8_shelves_L4 m_told m_s m_few n4) v1_4 v2_4 = some out := hf
      unfold f_X8_shelves_B4 at hf
      refine lv_iload_n hx hb dX8_shelves_4 rfl (lv_at hl 2 rfl) ?_
      refine lv_aload_n hx hb dX8_shelves_5 rfl (lv_at hl 0 rfl) ?_
      refine va_get (D := D) (ci := 8) (v := .ref a_m_told) (C := RX8) (T := TX8) (N := 19) hx hb hts hiX8_shelves_8 hown hE.1 hP 0 rfl rfl 3 (by decide) fL13 (fun _ h9 => h9) rfl dX8_shelves_6 ?_
      refine lv_iconst (v := 0) hx hb dX8_shelves_9 (by decide) ?_
      obtain ⟨hc22, hf⟩ := ck_some hf
      refine va_iald hx hb hE.1 hP 1 0 rfl rfl (ix_in hc22) dX8_shelves_10 ?_
      refine lv_icmp_ge (tgt := 38) hx hb dX8_shelves_11 (by decide) (fun hc23 => ?_) (fun hc23 => ?_)
      · have hf := if_t hf hc23
        refine lv_iconst (v := 0) hx hb dX8_shelves_38 (by decide) ?_
        refine lv_istore_n (lv' := [(2, .int 0), (0, .ref a_m), (1, .int v1_4)]) hx hb dX8_shelves_39 rfl hl (by decide) rfl (fun ls hl => ?_)
        exact L40 v1_4 FU 0 m_few hf _ _ _ ⟨hP, hD⟩ hS (lv_sub hl [1, 2, 0] rfl)
      · have hf := if_f hf hc23
        refine lv_iload_n hx hb dX8_shelves_14 rfl (lv_at hl 1 rfl) ?_
        refine lv_aload_n hx hb dX8_shelves_15 rfl (lv_at hl 0 rfl) ?_
        refine lv_iload_n hx hb dX8_shelves_16 rfl (lv_at hl 2 rfl) ?_
        obtain ⟨u2, hu2, hf⟩ := bd_some hf
        refine cl_iV (As := [.int v2_4]) (rest := [.int v1_4]) ⟨hx, hb, hml, hown, hts⟩ (c_X8_full l D cI cZ cR a_m a_m_s a_m_text a_m_told a_m_draft a_m_past a_m_images a_m_kept a_m_notes a_m_noted a_m_held a_m_few m_trace m_typed m_known m_many m_at m_sort m_start m_value m_s v2_4 u2 hu2) (cw_X8_shelves_X8_full_98 hts) hE hP hD hS hA [0, 2] rfl rfl [a_m, a_m_s] rfl rfl 0 8 rfl rfl rfl hl.1 rfl (Nat.le_of_ble_eq_true rfl) dX8_shelves_17 ⟨Nat.zero_le _, Nat.zero_le _⟩ (fun H locs hP hD hS => ?_)
        have hPD : PD D A [(a_m, .inr (8, [.long m_trace, .ref a_m_text, .int m_typed, .ref a_m_told, .ref a_m_draft, .ref a_m_s, .ref a_m_past, .int m_known, .ref a_m_images, .ref a_m_kept, .ref a_m_notes, .ref a_m_noted, .int m_many, .int m_at, .int m_sort, .int m_start, .int m_value, .ref a_m_held, .ref a_m_few])), (a_m_told, .inl (cI, 33, .inl m_told)), (a_m_s, .inl (cI, 51, .inl m_s)), (a_m_few, .inl (cI, 128, .inl m_few))] H := ⟨hP, hD⟩
        obtain ⟨hP, hD⟩ := hPD
        refine lv_if_le (tgt := 29) hx hb dX8_shelves_20 (by decide) (fun hc24 => ?_) (fun hc24 => ?_)
        · have hf := if_t hf hc24
          refine lv_iconst (v := 0) hx hb dX8_shelves_29 (by decide) ?_
          refine lv_ior hx hb dX8_shelves_30 ?_
          refine lv_istore_n (lv' := [(1, .int (v1_4 ||| 0)), (0, .ref a_m), (2, .int v2_4)]) hx hb dX8_shelves_31 rfl hl (by decide) rfl (fun ls hl => ?_)
          refine lv_iinc (v := (v2_4 + 1)) (lv' := [(2, .int (v2_4 + 1)), (1, .int (v1_4 ||| 0)), (0, .ref a_m)]) hx hb dX8_shelves_32 hl (k := 2) rfl (ii_p1 _) (by decide) rfl (fun ls hl => ?_)
          refine lv_goto (tgt := 4) hx hb dX8_shelves_35 (by decide) ?_
          exact ih4 (v1_4 ||| 0) (v2_4 + 1) hf _ _ _ ⟨hP, hD⟩ hS (lv_sub hl [2, 1, 0] rfl)
        · have hf := if_f hf hc24
          refine lv_iconst (v := 1) hx hb dX8_shelves_23 (by decide) ?_
          refine lv_iload_n hx hb dX8_shelves_24 rfl (lv_at hl 2 rfl) ?_
          refine lv_ishl hx hb dX8_shelves_25 ?_
          refine lv_goto (tgt := 30) hx hb dX8_shelves_26 (by decide) ?_
          refine lv_ior hx hb dX8_shelves_30 ?_
          refine lv_istore_n (lv' := [(1, .int (v1_4 ||| ((1 : Int32) <<< (v2_4 &&& 31)))), (0, .ref a_m), (2, .int v2_4)]) hx hb dX8_shelves_31 rfl hl (by decide) rfl (fun ls hl => ?_)
          refine lv_iinc (v := (v2_4 + 1)) (lv' := [(2, .int (v2_4 + 1)), (1, .int (v1_4 ||| ((1 : Int32) <<< (v2_4 &&& 31)))), (0, .ref a_m)]) hx hb dX8_shelves_32 hl (k := 2) rfl (ii_p1 _) (by decide) rfl (fun ls hl => ?_)
          refine lv_goto (tgt := 4) hx hb dX8_shelves_35 (by decide) ?_
          exact ih4 (v1_4 ||| ((1 : Int32) <<< (v2_4 &&& 31))) (v2_4 + 1) hf _ _ _ ⟨hP, hD⟩ hS (lv_sub hl [2, 1, 0] rfl)
  refine lv_iconst (v := 0) hx hb dX8_shelves_0 (by decide) ?_
  refine lv_istore_n (lv' := [(1, .int 0), (0, .ref a_m)]) hx hb dX8_shelves_1 rfl hl (by decide) rfl (fun ls hl => ?_)
  refine lv_iconst (v := 0) hx hb dX8_shelves_2 (by decide) ?_
  refine lv_istore_n (lv' := [(2, .int 0), (1, .int 0), (0, .ref a_m)]) hx hb dX8_shelves_3 rfl hl (by decide) rfl (fun ls hl => ?_)
  exact L4  FU 0 0 hf _ _ _ ⟨hP, hD⟩ hS (lv_sub hl [2, 1, 0] rfl)
abbrev rmX8_beside : Room := { frames := 2, cells := 0, slots := 0, locals := 47 }
theorem hiX8_beside_8 : ∀ w ∈ wsX80, w ∈ wsX8_beside := fun w h => (goodIn_r (big := wsX8_beside) wsX80 [26, 27, 28, 29, 30, 31, 32, 33, 34, 35, 36, 37, 38, 39, 40, 41, 42, 43, 44] rfl (by decide +kernel) w h).1
theorem cw_X8_beside_X8_ones_136 {s : State} {args : Array Value} (hts : ∀ x ∈ wsX8_beside, x.before args s = true) : CallB rmX8_beside s args RX8 136 yX8_ones cX8_ones 3 (some .int) wsX8_ones rmX8_ones 0 0 1 ∧ (Cond.static yX8_ones).before args s = true := va_cwS 1 hts gX8_beside_X8_ones rfl rfl rfl (by decide +kernel) ⟨Nat.le_of_ble_eq_true rfl, Nat.le_of_ble_eq_true rfl⟩
theorem cw_X8_beside_X8_full_98 {s : State} {args : Array Value} (hts : ∀ x ∈ wsX8_beside, x.before args s = true) : CallW rmX8_beside s args RX8 RX8 98 yX8_full cX8_full 4 (some .int) wsX8_full rmX8_full 0 0 1 := cwV 1 hts gX8_beside_X8_full rfl rfl rfl (by decide +kernel) ⟨Nat.le_of_ble_eq_true rfl, Nat.le_of_ble_eq_true rfl⟩
theorem cw_X8_beside_X8_stand_145 {s : State} {args : Array Value} (hts : ∀ x ∈ wsX8_beside, x.before args s = true) : CallW rmX8_beside s args RX8 RX8 145 yX8_stand cX8_stand 5 (some .boolean) wsX8_stand rmX8_stand 0 0 1 := cwV 1 hts gX8_beside_X8_stand rfl rfl rfl (by decide +kernel) ⟨Nat.le_of_ble_eq_true rfl, Nat.le_of_ble_eq_true rfl⟩
theorem cw_X8_beside_X8_isPan_104 {s : State} {args : Array Value} (hts : ∀ x ∈ wsX8_beside, x.before args s = true) : CallW rmX8_beside s args RX8 RX8 104 yX8_isPan cX8_isPan 2 (some .boolean) wsX8_isPan rmX8_isPan 0 0 1 := cwV 1 hts gX8_beside_X8_isPan rfl rfl rfl (by decide +kernel) ⟨Nat.le_of_ble_eq_true rfl, Nat.le_of_ble_eq_true rfl⟩
set_option maxRecDepth 100000 in
set_option maxHeartbeats 4000000 in
theorem c_X8_beside (l : Launch) (D : va_G) (cI cZ cR : ClassId) (a_m : Nat) (a_m_told : Nat) (a_m_s : Nat) (a_m_text : Nat) (a_m_draft : Nat) (a_m_past : Nat) (a_m_images : Nat) (a_m_kept : Nat) (a_m_notes : Nat) (a_m_noted : Nat) (a_m_held : Nat) (a_m_few : Nat) (m_trace : Int64) (m_typed : Int32) (m_known : Int32) (m_many : Int32) (m_at : Int32) (m_sort : Int32) (m_start : Int32) (m_value : Int32) (m_told : Nat → Int32) (m_s : Nat → Int32) (v1 : Int32) (out : Int32) (hf : f_X8_beside m_told m_s v1 = some out) : Ci l yX8_beside wsX8_beside rmX8_beside D cI cZ cR [.ref a_m, .int v1] [(a_m, .inr (8, [.long m_trace, .ref a_m_text, .int m_typed, .ref a_m_told, .ref a_m_draft, .ref a_m_s, .ref a_m_past, .int m_known, .ref a_m_images, .ref a_m_kept, .ref a_m_notes, .ref a_m_noted, .int m_many, .int m_at, .int m_sort, .int m_start, .int m_value, .ref a_m_held, .ref a_m_few])), (a_m_told, .inl (cI, 33, .inl m_told)), (a_m_s, .inl (cI, 51, .inl m_s))] out [(a_m, .inr (8, [.long m_trace, .ref a_m_text, .int m_typed, .ref a_m_told, .ref a_m_draft, .ref a_m_s, .ref a_m_past, .int m_known, .ref a_m_images, .ref a_m_kept, .ref a_m_notes, .ref a_m_noted, .int m_many, .int m_at, .int m_sort, .int m_start, .int m_value, .ref a_m_held, .ref a_m_few])), (a_m_told, .inl (cI, 33, .inl m_told)), (a_m_s, .inl (cI, 51, .inl m_s))] := by
  refine ent_i (cc := cX8_beside) (maxL := 6) .int (by decide) rfl (Nat.le_of_ble_eq_true rfl) ?_
  intro p e s m below meth c A Q hx hb hml hown hts hE hA hP hD hS hret ls hl
  have hown : s.vm.findClass RX8 = some m.cls := hown
  have hl : lv_has ls 6 [(0, .ref a_m), (1, .int v1)] := hl
  have fL13 := hts (.fieldLink RX8 13 "RainShelvesModel" "told" "[I") (List.mem_of_getElem? (i := 1) rfl)
  unfold f_X8_beside at hf
  have L15 : ∀ (n15 : Nat) (v2_15 : Int32) (v3_15 : Int32), f_X8_beside_L15 m_told m_s v1 n15 v2_15 v3_15 = some out → ∀ (H : Heap) (locs : List Loc) (ls : Array Slot), PD D A [(a_m, .inr (8, [.long m_trace, .ref a_m_text, .int m_typed, .ref a_m_told, .ref a_m_draft, .ref a_m_s, .ref a_m_past, .int m_known, .ref a_m_images, .ref a_m_kept, .ref a_m_notes, .ref a_m_noted, .int m_many, .int m_at, .int m_sort, .int m_start, .int m_value, .ref a_m_held, .ref a_m_few])), (a_m_told, .inl (cI, 33, .inl m_told)), (a_m_s, .inl (cI, 51, .inl m_s))] H → va_S A s.heap H locs → lv_has ls 6 [(0, .ref a_m), (1, .int v1), (2, .int v2_15), (3, .int v3_15)] → W p l e rmX8_beside s m ([.ref a_m, .int v1] : List Value).toArray below meth c H locs 0 0 Q (F0 m 15 ls []) := by
    intro  n15
    induction n15 with
    | zero => intro v2_15 v3_15 hf; cases hf
    | succ n15 ih15 =>
      intro v2_15 v3_15 hf H locs ls hPD hS hl
      obtain ⟨hP, hD⟩ := hPD
      have hf : f_X8_beside_B15 m_told m_s v1 (f_X8_beside_L15 m_told m_s v1 n15) v2_15 v3_15 = some out := hf
      unfold f_X8_beside_B15 at hf
      have J101 : ∀ (v4_101 : Int32), f_X8_beside_J101 v2_15 v3_15 (f_X8_beside_L15 m_told m_s v1 n15) v4_101 = some out → ∀ (H : Heap) (locs : List Loc) (ls : Array Slot), PD D A [(a_m, .inr (8, [.long m_trace, .ref a_m_text, .int m_typed, .ref a_m_told, .ref a_m_draft, .ref a_m_s, .ref a_m_past, .int m_known, .ref a_m_images, .ref a_m_kept, .ref a_m_notes, .ref a_m_noted, .int m_many, .int m_at, .int m_sort, .int m_start, .int m_value, .ref a_m_held, .ref a_m_few])), (a_m_told, .inl (cI, 33, .inl m_told)), (a_m_s, .inl (cI, 51, .inl m_s))] H → va_S A s.heap H locs → lv_has ls 6 [(0, .ref a_m), (1, .int v1), (2, .int v2_15), (3, .int v3_15), (4, .int v4_101)] → W p l e rmX8_beside s m ([.ref a_m, .int v1] : List Value).toArray below meth c H locs 0 0 Q (F0 m 101 ls []) := by
        intro v4_101 hf H locs ls hPD hS hl
        obtain ⟨hP, hD⟩ := hPD
        unfold f_X8_beside_J101 at hf
        refine lv_iload hx hb dX8_beside_101 (lv_at hl 4 rfl) ?_
        refine lv_if_eq (tgt := 125) hx hb dX8_beside_103 (by decide) (fun hc1 => ?_) (fun hc1 => ?_)
        · have hf := if_t hf hc1
          refine lv_iload_n hx hb dX8_beside_125 rfl (lv_at hl 2 rfl) ?_
          refine lv_istore_n (lv' := [(2, .int v2_15), (0, .ref a_m), (1, .int v1), (3, .int v3_15), (4, .int v4_101)]) hx hb dX8_beside_126 rfl hl (by decide) rfl (fun ls hl => ?_)
          refine lv_iinc (v := (v3_15 + 1)) (lv' := [(3, .int (v3_15 + 1)), (2, .int v2_15), (0, .ref a_m), (1, .int v1), (4, .int v4_101)]) hx hb dX8_beside_127 hl (k := 3) rfl (ii_p1 _) (by decide) rfl (fun ls hl => ?_)
          refine lv_goto (tgt := 15) hx hb dX8_beside_130 (by decide) ?_
          exact ih15 v2_15 (v3_15 + 1) hf _ _ _ ⟨hP, hD⟩ hS (lv_sub hl [2, 3, 1, 0] rfl)
        · have hf := if_f hf hc1
          refine lv_iload_n hx hb dX8_beside_106 rfl (lv_at hl 3 rfl) ?_
          obtain ⟨u1, hu1, hf⟩ := bd_some hf
          refine cl_iS (As := [.int v3_15]) (rest := []) ⟨hx, hb, hml, hown, hts⟩ (c_X8_ones l D cI cZ cR   v3_15 u1 hu1) (cw_X8_beside_X8_ones_136 hts) hE hP hD hS hA rfl hl.1 rfl (Nat.le_of_ble_eq_true rfl) dX8_beside_107 ⟨Nat.zero_le _, Nat.zero_le _⟩ (fun H locs hP hS => ?_)
          refine lv_iconst (v := 1) hx hb dX8_beside_110 (by decide) ?_
          refine lv_isub hx hb dX8_beside_111 ?_
          refine lv_iload_n hx hb dX8_beside_112 rfl (lv_at hl 2 rfl) ?_
          refine lv_icmp_le (tgt := 125) hx hb dX8_beside_113 (by decide) (fun hc2 => ?_) (fun hc2 => ?_)
          · have hf := if_t hf hc2
            refine lv_iload_n hx hb dX8_beside_125 rfl (lv_at hl 2 rfl) ?_
            refine lv_istore_n (lv' := [(2, .int v2_15), (0, .ref a_m), (1, .int v1), (3, .int v3_15), (4, .int v4_101)]) hx hb dX8_beside_126 rfl hl (by decide) rfl (fun ls hl => ?_)
            refine lv_iinc (v := (v3_15 + 1)) (lv' := [(3, .int (v3_15 + 1)), (2, .int v2_15), (0, .ref a_m), (1, .int v1), (4, .int v4_101)]) hx hb dX8_beside_127 hl (k := 3) rfl (ii_p1 _) (by decide) rfl (fun ls hl => ?_)
            refine lv_goto (tgt := 15) hx hb dX8_beside_130 (by decide) ?_
            exact ih15 v2_15 (v3_15 + 1) hf _ _ _ ⟨hP, hD⟩ hS (lv_sub hl [2, 3, 1, 0] rfl)
          · have hf := if_f hf hc2
            refine lv_iload_n hx hb dX8_beside_116 rfl (lv_at hl 3 rfl) ?_
            obtain ⟨u2, hu2, hf⟩ := bd_some hf
            refine cl_iS (As := [.int v3_15]) (rest := []) ⟨hx, hb, hml, hown, hts⟩ (c_X8_ones l D cI cZ cR   v3_15 u2 hu2) (cw_X8_beside_X8_ones_136 hts) hE hP hD hS hA rfl hl.1 rfl (Nat.le_of_ble_eq_true rfl) dX8_beside_117 ⟨Nat.zero_le _, Nat.zero_le _⟩ (fun H locs hP hS => ?_)
            refine lv_iconst (v := 1) hx hb dX8_beside_120 (by decide) ?_
            refine lv_isub hx hb dX8_beside_121 ?_
            refine lv_goto (tgt := 126) hx hb dX8_beside_122 (by decide) ?_
            refine lv_istore_n (lv' := [(2, .int (u2 - 1)), (0, .ref a_m), (1, .int v1), (3, .int v3_15), (4, .int v4_101)]) hx hb dX8_beside_126 rfl hl (by decide) rfl (fun ls hl => ?_)
            refine lv_iinc (v := (v3_15 + 1)) (lv' := [(3, .int (v3_15 + 1)), (2, .int (u2 - 1)), (0, .ref a_m), (1, .int v1), (4, .int v4_101)]) hx hb dX8_beside_127 hl (k := 3) rfl (ii_p1 _) (by decide) rfl (fun ls hl => ?_)
            refine lv_goto (tgt := 15) hx hb dX8_beside_130 (by decide) ?_
            exact ih15 (u2 - 1) (v3_15 + 1) hf _ _ _ ⟨hP, hD⟩ hS (lv_sub hl [2, 3, 1, 0] rfl)
      have L54 : ∀ (n54 : Nat) (v4_54 : Int32) (v5_54 : Int32), f_X8_beside_L54 m_told m_s v2_15 v3_15 (f_X8_beside_L15 m_told m_s v1 n15) n54 v4_54 v5_54 = some out → ∀ (H : Heap) (locs : List Loc) (ls : Array Slot), PD D A [(a_m, .inr (8, [.long m_trace, .ref a_m_text, .int m_typed, .ref a_m_told, .ref a_m_draft, .ref a_m_s, .ref a_m_past, .int m_known, .ref a_m_images, .ref a_m_kept, .ref a_m_notes, .ref a_m_noted, .int m_many, .int m_at, .int m_sort, .int m_start, .int m_value, .ref a_m_held, .ref a_m_few])), (a_m_told, .inl (cI, 33, .inl m_told)), (a_m_s, .inl (cI, 51, .inl m_s))] H → va_S A s.heap H locs → lv_has ls 6 [(0, .ref a_m), (1, .int v1), (2, .int v2_15), (3, .int v3_15), (4, .int v4_54), (5, .int v5_54)] → W p l e rmX8_beside s m ([.ref a_m, .int v1] : List Value).toArray below meth c H locs 0 0 Q (F0 m 54 ls []) := by
        intro  n54
        induction n54 with
        | zero => intro v4_54 v5_54 hf; cases hf
        | succ n54 ih54 =>
          intro v4_54 v5_54 hf H locs ls hPD hS hl
          obtain ⟨hP, hD⟩ := hPD
          have hf : f_X8_beside_B54 m_told m_s v2_15 v3_15 (f_X8_beside_L15 m_told m_s v1 n15) (f_X8_beside_L54 m_told m_s v2_15 v3_15 (f_X8_beside_L15 m_told m_s v1 n15) n54) v4_54 v5_54 = some out := hf
          unfold f_X8_beside_B54 at hf
          refine lv_iload hx hb dX8_beside_54 (lv_at hl 5 rfl) ?_
          refine lv_aload_n hx hb dX8_beside_56 rfl (lv_at hl 0 rfl) ?_
          refine va_get (D := D) (ci := 8) (v := .ref a_m_told) (C := RX8) (T := TX8) (N := 19) hx hb hts hiX8_beside_8 hown hE.1 hP 0 rfl rfl 3 (by decide) fL13 (fun _ h9 => h9) rfl dX8_beside_57 ?_
          refine lv_iconst (v := 0) hx hb dX8_beside_60 (by decide) ?_
          obtain ⟨hc3, hf⟩ := ck_some hf
          refine va_iald hx hb hE.1 hP 1 0 rfl rfl (ix_in hc3) dX8_beside_61 ?_
          refine lv_icmp_ge (tgt := 101) hx hb dX8_beside_62 (by decide) (fun hc4 => ?_) (fun hc4 => ?_)
          · have hf := if_t hf hc4
            exact J101 v4_54 hf _ _ _ ⟨hP, hD⟩ hS (lv_sub hl [0, 1, 2, 3, 4] rfl)
          · have hf := if_f hf hc4
            refine lv_iload hx hb dX8_beside_65 (lv_at hl 4 rfl) ?_
            refine lv_if_eq (tgt := 92) hx hb dX8_beside_67 (by decide) (fun hc5 => ?_) (fun hc5 => ?_)
            · have hf := if_t hf hc5
              refine lv_iconst (v := 0) hx hb dX8_beside_92 (by decide) ?_
              refine lv_istore (lv' := [(4, .int 0), (0, .ref a_m), (1, .int v1), (2, .int v2_15), (3, .int v3_15), (5, .int v5_54)]) hx hb dX8_beside_93 hl (by decide) rfl (fun ls hl => ?_)
              refine lv_iinc (v := (v5_54 + 1)) (lv' := [(5, .int (v5_54 + 1)), (4, .int 0), (0, .ref a_m), (1, .int v1), (2, .int v2_15), (3, .int v3_15)]) hx hb dX8_beside_95 hl (k := 5) rfl (ii_p1 _) (by decide) rfl (fun ls hl => ?_)
              refine lv_goto (tgt := 54) hx hb dX8_beside_98 (by decide) ?_
              exact ih54 0 (v5_54 + 1) hf _ _ _ ⟨hP, hD⟩ hS (lv_sub hl [2, 3, 4, 5, 1, 0] rfl)
            · have hf := if_f hf hc5
              refine lv_iload_n hx hb dX8_beside_70 rfl (lv_at hl 3 rfl) ?_
              refine lv_iload hx hb dX8_beside_71 (lv_at hl 5 rfl) ?_
              refine lv_ishr hx hb dX8_beside_73 ?_
              refine lv_iconst (v := 1) hx hb dX8_beside_74 (by decide) ?_
              refine lv_iand hx hb dX8_beside_75 ?_
              refine lv_if_eq (tgt := 88) hx hb dX8_beside_76 (by decide) (fun hc6 => ?_) (fun hc6 => ?_)
              · have hf := if_t hf hc6
                refine lv_iconst (v := 1) hx hb dX8_beside_88 (by decide) ?_
                refine lv_goto (tgt := 93) hx hb dX8_beside_89 (by decide) ?_
                refine lv_istore (lv' := [(4, .int 1), (0, .ref a_m), (1, .int v1), (2, .int v2_15), (3, .int v3_15), (5, .int v5_54)]) hx hb dX8_beside_93 hl (by decide) rfl (fun ls hl => ?_)
                refine lv_iinc (v := (v5_54 + 1)) (lv' := [(5, .int (v5_54 + 1)), (4, .int 1), (0, .ref a_m), (1, .int v1), (2, .int v2_15), (3, .int v3_15)]) hx hb dX8_beside_95 hl (k := 5) rfl (ii_p1 _) (by decide) rfl (fun ls hl => ?_)
                refine lv_goto (tgt := 54) hx hb dX8_beside_98 (by decide) ?_
                exact ih54 1 (v5_54 + 1) hf _ _ _ ⟨hP, hD⟩ hS (lv_sub hl [2, 3, 4, 5, 1, 0] rfl)
              · have hf := if_f hf hc6
                refine lv_aload_n hx hb dX8_beside_79 rfl (lv_at hl 0 rfl) ?_
                refine lv_iload hx hb dX8_beside_80 (lv_at hl 5 rfl) ?_
                obtain ⟨u3, hu3, hf⟩ := bd_some hf
                refine cl_iV (As := [.int v5_54]) (rest := []) ⟨hx, hb, hml, hown, hts⟩ (c_X8_full l D cI cZ cR a_m a_m_s a_m_text a_m_told a_m_draft a_m_past a_m_images a_m_kept a_m_notes a_m_noted a_m_held a_m_few m_trace m_typed m_known m_many m_at m_sort m_start m_value m_s v5_54 u3 hu3) (cw_X8_beside_X8_full_98 hts) hE hP hD hS hA [0, 2] rfl rfl [a_m, a_m_s] rfl rfl 0 8 rfl rfl rfl hl.1 rfl (Nat.le_of_ble_eq_true rfl) dX8_beside_82 ⟨Nat.zero_le _, Nat.zero_le _⟩ (fun H locs hP hD hS => ?_)
                have hPD : PD D A [(a_m, .inr (8, [.long m_trace, .ref a_m_text, .int m_typed, .ref a_m_told, .ref a_m_draft, .ref a_m_s, .ref a_m_past, .int m_known, .ref a_m_images, .ref a_m_kept, .ref a_m_notes, .ref a_m_noted, .int m_many, .int m_at, .int m_sort, .int m_start, .int m_value, .ref a_m_held, .ref a_m_few])), (a_m_told, .inl (cI, 33, .inl m_told)), (a_m_s, .inl (cI, 51, .inl m_s))] H := ⟨hP, hD⟩
                obtain ⟨hP, hD⟩ := hPD
                refine lv_if_le (tgt := 92) hx hb dX8_beside_85 (by decide) (fun hc7 => ?_) (fun hc7 => ?_)
                · have hf := if_t hf hc7
                  refine lv_iconst (v := 0) hx hb dX8_beside_92 (by decide) ?_
                  refine lv_istore (lv' := [(4, .int 0), (0, .ref a_m), (1, .int v1), (2, .int v2_15), (3, .int v3_15), (5, .int v5_54)]) hx hb dX8_beside_93 hl (by decide) rfl (fun ls hl => ?_)
                  refine lv_iinc (v := (v5_54 + 1)) (lv' := [(5, .int (v5_54 + 1)), (4, .int 0), (0, .ref a_m), (1, .int v1), (2, .int v2_15), (3, .int v3_15)]) hx hb dX8_beside_95 hl (k := 5) rfl (ii_p1 _) (by decide) rfl (fun ls hl => ?_)
                  refine lv_goto (tgt := 54) hx hb dX8_beside_98 (by decide) ?_
                  exact ih54 0 (v5_54 + 1) hf _ _ _ ⟨hP, hD⟩ hS (lv_sub hl [2, 3, 4, 5, 1, 0] rfl)
                · have hf := if_f hf hc7
                  refine lv_iconst (v := 1) hx hb dX8_beside_88 (by decide) ?_
                  refine lv_goto (tgt := 93) hx hb dX8_beside_89 (by decide) ?_
                  refine lv_istore (lv' := [(4, .int 1), (0, .ref a_m), (1, .int v1), (2, .int v2_15), (3, .int v3_15), (5, .int v5_54)]) hx hb dX8_beside_93 hl (by decide) rfl (fun ls hl => ?_)
                  refine lv_iinc (v := (v5_54 + 1)) (lv' := [(5, .int (v5_54 + 1)), (4, .int 1), (0, .ref a_m), (1, .int v1), (2, .int v2_15), (3, .int v3_15)]) hx hb dX8_beside_95 hl (k := 5) rfl (ii_p1 _) (by decide) rfl (fun ls hl => ?_)
                  refine lv_goto (tgt := 54) hx hb dX8_beside_98 (by decide) ?_
                  exact ih54 1 (v5_54 + 1) hf _ _ _ ⟨hP, hD⟩ hS (lv_sub hl [2, 3, 4, 5, 1, 0] rfl)
      refine lv_iload_n hx hb dX8_beside_15 rfl (lv_at hl 3 rfl) ?_
      refine lv_iconst (v := 1) hx hb dX8_beside_16 (by decide) ?_
      refine lv_aload_n hx hb dX8_beside_17 rfl (lv_at hl 0 rfl) ?_
      refine va_get (D := D) (ci := 8) (v := .ref a_m_told) (C := RX8) (T := TX8) (N := 19) hx hb hts hiX8_beside_8 hown hE.1 hP 0 rfl rfl 3 (by decide) fL13 (fun _ h9 => h9) rfl dX8_beside_18 ?_
      refine lv_iconst (v := 0) hx hb dX8_beside_21 (by decide) ?_
      obtain ⟨hc8, hf⟩ := ck_some hf
      refine va_iald hx hb hE.1 hP 1 0 rfl rfl (ix_in hc8) dX8_beside_22 ?_
      refine lv_ishl hx hb dX8_beside_23 ?_
      refine lv_icmp_ge (tgt := 133) hx hb dX8_beside_24 (by decide) (fun hc9 => ?_) (fun hc9 => ?_)
      · have hf := if_t hf hc9
        refine lv_iload_n hx hb dX8_beside_133 rfl (lv_at hl 2 rfl) ?_
        have he := Option.some.inj hf
        subst he
        exact hret _ _ _ _ dX8_beside_134 rfl hP hD hS
      · have hf := if_f hf hc9
        refine lv_iload_n hx hb dX8_beside_27 rfl (lv_at hl 3 rfl) ?_
        refine lv_iload_n hx hb dX8_beside_28 rfl (lv_at hl 1 rfl) ?_
        refine lv_ishr hx hb dX8_beside_29 ?_
        refine lv_iconst (v := 1) hx hb dX8_beside_30 (by decide) ?_
        refine lv_iand hx hb dX8_beside_31 ?_
        refine lv_iconst (v := 1) hx hb dX8_beside_32 (by decide) ?_
        refine lv_icmp_ne (tgt := 48) hx hb dX8_beside_33 (by decide) (fun hc10 => ?_) (fun hc10 => ?_)
        · have hf := if_f hf hc10
          refine lv_iconst (v := 0) hx hb dX8_beside_48 (by decide) ?_
          refine lv_istore (lv' := [(4, .int 0), (0, .ref a_m), (1, .int v1), (2, .int v2_15), (3, .int v3_15)]) hx hb dX8_beside_49 hl (by decide) rfl (fun ls hl => ?_)
          refine lv_iconst (v := 0) hx hb dX8_beside_51 (by decide) ?_
          refine lv_istore (lv' := [(5, .int 0), (4, .int 0), (0, .ref a_m), (1, .int v1), (2, .int v2_15), (3, .int v3_15)]) hx hb dX8_beside_52 hl (by decide) rfl (fun ls hl => ?_)
          exact L54  FU 0 0 hf _ _ _ ⟨hP, hD⟩ hS (lv_sub hl [2, 3, 4, 5, 1, 0] rfl)
        · have hf := if_t hf hc10
          refine lv_aload_n hx hb dX8_beside_36 rfl (lv_at hl 0 rfl) ?_
          refine lv_iload_n hx hb dX8_beside_37 rfl (lv_at hl 3 rfl) ?_
          obtain ⟨u4, hu4, hf⟩ := bd_some hf
          refine cl_iV (As := [.int v3_15]) (rest := []) ⟨hx, hb, hml, hown, hts⟩ (c_X8_stand l D cI cZ cR a_m a_m_told a_m_s a_m_text a_m_draft a_m_past a_m_images a_m_kept a_m_notes a_m_noted a_m_held a_m_few m_trace m_typed m_known m_many m_at m_sort m_start m_value m_told m_s v3_15 u4 hu4) (cw_X8_beside_X8_stand_145 hts) hE hP hD hS hA [0, 1, 2] rfl rfl [a_m, a_m_told, a_m_s] rfl rfl 0 8 rfl rfl rfl hl.1 rfl (Nat.le_of_ble_eq_true rfl) dX8_beside_38 ⟨Nat.zero_le _, Nat.zero_le _⟩ (fun H locs hP hD hS => ?_)
          have hPD : PD D A [(a_m, .inr (8, [.long m_trace, .ref a_m_text, .int m_typed, .ref a_m_told, .ref a_m_draft, .ref a_m_s, .ref a_m_past, .int m_known, .ref a_m_images, .ref a_m_kept, .ref a_m_notes, .ref a_m_noted, .int m_many, .int m_at, .int m_sort, .int m_start, .int m_value, .ref a_m_held, .ref a_m_few])), (a_m_told, .inl (cI, 33, .inl m_told)), (a_m_s, .inl (cI, 51, .inl m_s))] H := ⟨hP, hD⟩
          obtain ⟨hP, hD⟩ := hPD
          refine lv_if_eq (tgt := 48) hx hb dX8_beside_41 (by decide) (fun hc11 => ?_) (fun hc11 => ?_)
          · have hf := if_t hf hc11
            refine lv_iconst (v := 0) hx hb dX8_beside_48 (by decide) ?_
            refine lv_istore (lv' := [(4, .int 0), (0, .ref a_m), (1, .int v1), (2, .int v2_15), (3, .int v3_15)]) hx hb dX8_beside_49 hl (by decide) rfl (fun ls hl => ?_)
            refine lv_iconst (v := 0) hx hb dX8_beside_51 (by decide) ?_
            refine lv_istore (lv' := [(5, .int 0), (4, .int 0), (0, .ref a_m), (1, .int v1), (2, .int v2_15), (3, .int v3_15)]) hx hb dX8_beside_52 hl (by decide) rfl (fun ls hl => ?_)
            exact L54  FU 0 0 hf _ _ _ ⟨hP, hD⟩ hS (lv_sub hl [2, 3, 4, 5, 1, 0] rfl)
          · have hf := if_f hf hc11
            refine lv_iconst (v := 1) hx hb dX8_beside_44 (by decide) ?_
            refine lv_goto (tgt := 49) hx hb dX8_beside_45 (by decide) ?_
            refine lv_istore (lv' := [(4, .int 1), (0, .ref a_m), (1, .int v1), (2, .int v2_15), (3, .int v3_15)]) hx hb dX8_beside_49 hl (by decide) rfl (fun ls hl => ?_)
            refine lv_iconst (v := 0) hx hb dX8_beside_51 (by decide) ?_
            refine lv_istore (lv' := [(5, .int 0), (4, .int 1), (0, .ref a_m), (1, .int v1), (2, .int v2_15), (3, .int v3_15)]) hx hb dX8_beside_52 hl (by decide) rfl (fun ls hl => ?_)
            exact L54  FU 1 0 hf _ _ _ ⟨hP, hD⟩ hS (lv_sub hl [2, 3, 4, 5, 1, 0] rfl)
  refine lv_aload_n hx hb dX8_beside_0 rfl (lv_at hl 0 rfl) ?_
  refine lv_iload_n hx hb dX8_beside_1 rfl (lv_at hl 1 rfl) ?_
  obtain ⟨u5, hu5, hf⟩ := bd_some hf
  refine cl_iV (As := [.int v1]) (rest := []) ⟨hx, hb, hml, hown, hts⟩ (c_X8_isPan l D cI cZ cR a_m a_m_told a_m_text a_m_draft a_m_s a_m_past a_m_images a_m_kept a_m_notes a_m_noted a_m_held a_m_few m_trace m_typed m_known m_many m_at m_sort m_start m_value m_told v1 u5 hu5) (cw_X8_beside_X8_isPan_104 hts) hE hP hD hS hA [0, 1] rfl rfl [a_m, a_m_told] rfl rfl 0 8 rfl rfl rfl hl.1 rfl (Nat.le_of_ble_eq_true rfl) dX8_beside_2 ⟨Nat.zero_le _, Nat.zero_le _⟩ (fun H locs hP hD hS => ?_)
  have hPD : PD D A [(a_m, .inr (8, [.long m_trace, .ref a_m_text, .int m_typed, .ref a_m_told, .ref a_m_draft, .ref a_m_s, .ref a_m_past, .int m_known, .ref a_m_images, .ref a_m_kept, .ref a_m_notes, .ref a_m_noted, .int m_many, .int m_at, .int m_sort, .int m_start, .int m_value, .ref a_m_held, .ref a_m_few])), (a_m_told, .inl (cI, 33, .inl m_told)), (a_m_s, .inl (cI, 51, .inl m_s))] H := ⟨hP, hD⟩
  obtain ⟨hP, hD⟩ := hPD
  refine lv_if_ne (tgt := 10) hx hb dX8_beside_5 (by decide) (fun hc12 => ?_) (fun hc12 => ?_)
  · have hf := if_f hf hc12
    refine lv_bipush (v := (-9)) hx hb dX8_beside_10 (by decide) ?_
    refine lv_istore_n (lv' := [(2, .int (-9)), (0, .ref a_m), (1, .int v1)]) hx hb dX8_beside_12 rfl hl (by decide) rfl (fun ls hl => ?_)
    refine lv_iconst (v := 0) hx hb dX8_beside_13 (by decide) ?_
    refine lv_istore_n (lv' := [(3, .int 0), (2, .int (-9)), (0, .ref a_m), (1, .int v1)]) hx hb dX8_beside_14 rfl hl (by decide) rfl (fun ls hl => ?_)
    exact L15  FU (-9) 0 hf _ _ _ ⟨hP, hD⟩ hS (lv_sub hl [2, 3, 1, 0] rfl)
  · have hf := if_t hf hc12
    refine lv_iconst (v := (-1)) hx hb dX8_beside_8 (by decide) ?_
    have he := Option.some.inj hf
    subst he
    exact hret _ _ _ _ dX8_beside_9 rfl hP hD hS
abbrev rmX8_odds : Room := { frames := 3, cells := 0, slots := 0, locals := 66 }
theorem cw_X8_odds_X8_ones_136 {s : State} {args : Array Value} (hts : ∀ x ∈ wsX8_odds, x.before args s = true) : CallB rmX8_odds s args RX8 136 yX8_ones cX8_ones 3 (some .int) wsX8_ones rmX8_ones 0 0 1 ∧ (Cond.static yX8_ones).before args s = true := va_cwS 1 hts gX8_odds_X8_ones rfl rfl rfl (by decide +kernel) ⟨Nat.le_of_ble_eq_true rfl, Nat.le_of_ble_eq_true rfl⟩
theorem cw_X8_odds_X8_in_51 {s : State} {args : Array Value} (hts : ∀ x ∈ wsX8_odds, x.before args s = true) : CallB rmX8_odds s args RX8 51 yX8_in cX8_in 3 (some .boolean) wsX8_in rmX8_in 0 0 3 ∧ (Cond.static yX8_in).before args s = true := va_cwS 3 hts gX8_odds_X8_in rfl rfl rfl (by decide +kernel) ⟨Nat.le_of_ble_eq_true rfl, Nat.le_of_ble_eq_true rfl⟩
theorem cw_X8_odds_X8_allRead_111 {s : State} {args : Array Value} (hts : ∀ x ∈ wsX8_odds, x.before args s = true) : CallW rmX8_odds s args RX8 RX8 111 yX8_allRead cX8_allRead 3 (some .int) wsX8_allRead rmX8_allRead 0 0 0 := cwV 0 hts gX8_odds_X8_allRead rfl rfl rfl (by decide +kernel) ⟨Nat.le_of_ble_eq_true rfl, Nat.le_of_ble_eq_true rfl⟩
set_option maxRecDepth 100000 in
set_option maxHeartbeats 4000000 in
theorem c_X8_odds (l : Launch) (D : va_G) (cI cZ cR : ClassId) (a_m : Nat) (a_m_told : Nat) (a_m_s : Nat) (a_m_text : Nat) (a_m_draft : Nat) (a_m_past : Nat) (a_m_images : Nat) (a_m_kept : Nat) (a_m_notes : Nat) (a_m_noted : Nat) (a_m_held : Nat) (a_m_few : Nat) (m_trace : Int64) (m_typed : Int32) (m_known : Int32) (m_many : Int32) (m_at : Int32) (m_sort : Int32) (m_start : Int32) (m_value : Int32) (m_told : Nat → Int32) (m_s : Nat → Int32) (v1 : Int32) (v2 : Int32) (v3 : Int32) (out : Int32) (hf : f_X8_odds m_told m_s v1 v2 v3 = some out) : Ci l yX8_odds wsX8_odds rmX8_odds D cI cZ cR [.ref a_m, .int v1, .int v2, .int v3] [(a_m, .inr (8, [.long m_trace, .ref a_m_text, .int m_typed, .ref a_m_told, .ref a_m_draft, .ref a_m_s, .ref a_m_past, .int m_known, .ref a_m_images, .ref a_m_kept, .ref a_m_notes, .ref a_m_noted, .int m_many, .int m_at, .int m_sort, .int m_start, .int m_value, .ref a_m_held, .ref a_m_few])), (a_m_told, .inl (cI, 33, .inl m_told)), (a_m_s, .inl (cI, 51, .inl m_s))] out [(a_m, .inr (8, [.long m_trace, .ref a_m_text, .int m_typed, .ref a_m_told, .ref a_m_draft, .ref a_m_s, .ref a_m_past, .int m_known, .ref a_m_images, .ref a_m_kept, .ref a_m_notes, .ref a_m_noted, .int m_many, .int m_at, .int m_sort, .int m_start, .int m_value, .ref a_m_held, .ref a_m_few])), (a_m_told, .inl (cI, 33, .inl m_told)), (a_m_s, .inl (cI, 51, .inl m_s))] := by
  refine ent_i (cc := cX8_odds) (maxL := 10) .int (by decide) rfl (Nat.le_of_ble_eq_true rfl) ?_
  intro p e s m below meth c A Q hx hb hml hown hts hE hA hP hD hS hret ls hl
  have hown : s.vm.findClass RX8 = some m.cls := hown
  have hl : lv_has ls 10 [(0, .ref a_m), (1, .int v1), (2, .int v2), (3, .int v3)] := hl
  unfold f_X8_odds at hf
  have J181 : ∀ (v5_181 : Int32) (v6_181 : Int32) (v7_181 : Int32), f_X8_odds_J181 v3 v5_181 v6_181 v7_181 = some out → ∀ (H : Heap) (locs : List Loc) (ls : Array Slot), PD D A [(a_m, .inr (8, [.long m_trace, .ref a_m_text, .int m_typed, .ref a_m_told, .ref a_m_draft, .ref a_m_s, .ref a_m_past, .int m_known, .ref a_m_images, .ref a_m_kept, .ref a_m_notes, .ref a_m_noted, .int m_many, .int m_at, .int m_sort, .int m_start, .int m_value, .ref a_m_held, .ref a_m_few])), (a_m_told, .inl (cI, 33, .inl m_told)), (a_m_s, .inl (cI, 51, .inl m_s))] H → va_S A s.heap H locs → lv_has ls 10 [(3, .int v3), (5, .int v5_181), (6, .int v6_181), (7, .int v7_181)] → W p l e rmX8_odds s m ([.ref a_m, .int v1, .int v2, .int v3] : List Value).toArray below meth c H locs 0 0 Q (F0 m 181 ls []) := by
    intro v5_181 v6_181 v7_181 hf H locs ls hPD hS hl
    obtain ⟨hP, hD⟩ := hPD
    unfold f_X8_odds_J181 at hf
    refine lv_iload_n hx hb dX8_odds_181 rfl (lv_at hl 0 rfl) ?_
    refine lv_if_ne (tgt := 193) hx hb dX8_odds_182 (by decide) (fun hc1 => ?_) (fun hc1 => ?_)
    · have hf := if_f hf hc1
      refine lv_iload hx hb dX8_odds_193 (lv_at hl 2 rfl) ?_
      refine lv_iload hx hb dX8_odds_195 (lv_at hl 3 rfl) ?_
      obtain ⟨hc2, hf⟩ := ck_some hf
      refine lv_idiv hx hb dX8_odds_197 (nz_ne hc2) ?_
      have he := Option.some.inj hf
      subst he
      exact hret _ _ _ _ dX8_odds_198 rfl hP hD hS
    · have hf := if_t hf hc1
      refine lv_iload hx hb dX8_odds_185 (lv_at hl 1 rfl) ?_
      refine lv_iload hx hb dX8_odds_187 (lv_at hl 3 rfl) ?_
      obtain ⟨hc3, hf⟩ := ck_some hf
      refine lv_idiv hx hb dX8_odds_189 (nz_ne hc3) ?_
      refine lv_goto (tgt := 198) hx hb dX8_odds_190 (by decide) ?_
      have he := Option.some.inj hf
      subst he
      exact hret _ _ _ _ dX8_odds_198 rfl hP hD hS
  have L158 : ∀ (v5_158 : Int32) (v6_158 : Int32) (n158 : Nat) (v7_158 : Int32) (v8_158 : Int32), f_X8_odds_L158 v3 v5_158 v6_158 n158 v7_158 v8_158 = some out → ∀ (H : Heap) (locs : List Loc) (ls : Array Slot), PD D A [(a_m, .inr (8, [.long m_trace, .ref a_m_text, .int m_typed, .ref a_m_told, .ref a_m_draft, .ref a_m_s, .ref a_m_past, .int m_known, .ref a_m_images, .ref a_m_kept, .ref a_m_notes, .ref a_m_noted, .int m_many, .int m_at, .int m_sort, .int m_start, .int m_value, .ref a_m_held, .ref a_m_few])), (a_m_told, .inl (cI, 33, .inl m_told)), (a_m_s, .inl (cI, 51, .inl m_s))] H → va_S A s.heap H locs → lv_has ls 10 [(3, .int v3), (5, .int v5_158), (6, .int v6_158), (7, .int v7_158), (8, .int v8_158)] → W p l e rmX8_odds s m ([.ref a_m, .int v1, .int v2, .int v3] : List Value).toArray below meth c H locs 0 0 Q (F0 m 158 ls []) := by
    intro v5_158 v6_158 n158
    induction n158 with
    | zero => intro v7_158 v8_158 hf; cases hf
    | succ n158 ih158 =>
      intro v7_158 v8_158 hf H locs ls hPD hS hl
      obtain ⟨hP, hD⟩ := hPD
      have hf : f_X8_odds_B158 v3 v5_158 v6_158 (f_X8_odds_L158 v3 v5_158 v6_158 n158) v7_158 v8_158 = some out := hf
      unfold f_X8_odds_B158 at hf
      refine lv_iload hx hb dX8_odds_158 (lv_at hl 4 rfl) ?_
      refine lv_if_le (tgt := 181) hx hb dX8_odds_160 (by decide) (fun hc4 => ?_) (fun hc4 => ?_)
      · have hf := if_t hf hc4
        exact J181 v5_158 v6_158 v7_158 hf _ _ _ ⟨hP, hD⟩ hS (lv_sub hl [0, 1, 2, 3] rfl)
      · have hf := if_f hf hc4
        refine lv_iload hx hb dX8_odds_163 (lv_at hl 3 rfl) ?_
        refine lv_iload hx hb dX8_odds_165 (lv_at hl 4 rfl) ?_
        obtain ⟨hc5, hf⟩ := ck_some hf
        refine lv_irem hx hb dX8_odds_167 (nz_ne hc5) ?_
        refine lv_istore (lv' := [(9, .int (v7_158 - v7_158 / v8_158 * v8_158)), (3, .int v3), (5, .int v5_158), (6, .int v6_158), (7, .int v7_158), (8, .int v8_158)]) hx hb dX8_odds_168 hl (by decide) rfl (fun ls hl => ?_)
        refine lv_iload hx hb dX8_odds_170 (lv_at hl 5 rfl) ?_
        refine lv_istore (lv' := [(7, .int v8_158), (9, .int (v7_158 - v7_158 / v8_158 * v8_158)), (3, .int v3), (5, .int v5_158), (6, .int v6_158), (8, .int v8_158)]) hx hb dX8_odds_172 hl (by decide) rfl (fun ls hl => ?_)
        refine lv_iload hx hb dX8_odds_174 (lv_at hl 1 rfl) ?_
        refine lv_istore (lv' := [(8, .int (v7_158 - v7_158 / v8_158 * v8_158)), (7, .int v8_158), (9, .int (v7_158 - v7_158 / v8_158 * v8_158)), (3, .int v3), (5, .int v5_158), (6, .int v6_158)]) hx hb dX8_odds_176 hl (by decide) rfl (fun ls hl => ?_)
        refine lv_goto (tgt := 158) hx hb dX8_odds_178 (by decide) ?_
        exact ih158 v8_158 (v7_158 - v7_158 / v8_158 * v8_158) hf _ _ _ ⟨hP, hD⟩ hS (lv_sub hl [3, 4, 5, 1, 0] rfl)
  have L72 : ∀ (v4_72 : Int32) (v6_72 : Int32) (n72 : Nat) (v5_72 : Int32) (v7_72 : Int32), f_X8_odds_L72 v1 v2 v3 v4_72 v6_72 n72 v5_72 v7_72 = some out → ∀ (H : Heap) (locs : List Loc) (ls : Array Slot), PD D A [(a_m, .inr (8, [.long m_trace, .ref a_m_text, .int m_typed, .ref a_m_told, .ref a_m_draft, .ref a_m_s, .ref a_m_past, .int m_known, .ref a_m_images, .ref a_m_kept, .ref a_m_notes, .ref a_m_noted, .int m_many, .int m_at, .int m_sort, .int m_start, .int m_value, .ref a_m_held, .ref a_m_few])), (a_m_told, .inl (cI, 33, .inl m_told)), (a_m_s, .inl (cI, 51, .inl m_s))] H → va_S A s.heap H locs → lv_has ls 10 [(1, .int v1), (2, .int v2), (3, .int v3), (4, .int v4_72), (5, .int v5_72), (6, .int v6_72), (7, .int v7_72)] → W p l e rmX8_odds s m ([.ref a_m, .int v1, .int v2, .int v3] : List Value).toArray below meth c H locs 0 0 Q (F0 m 72 ls []) := by
    intro v4_72 v6_72 n72
    induction n72 with
    | zero => intro v5_72 v7_72 hf; cases hf
    | succ n72 ih72 =>
      intro v5_72 v7_72 hf H locs ls hPD hS hl
      obtain ⟨hP, hD⟩ := hPD
      have hf : f_X8_odds_B72 v1 v2 v3 v4_72 v6_72 (f_X8_odds_L72 v1 v2 v3 v4_72 v6_72 n72) v5_72 v7_72 = some out := hf
      unfold f_X8_odds_B72 at hf
      have J124 : ∀ (v8_124 : Int32), f_X8_odds_J124 v5_72 v7_72 v2 (f_X8_odds_L72 v1 v2 v3 v4_72 v6_72 n72) v8_124 = some out → ∀ (H : Heap) (locs : List Loc) (ls : Array Slot), PD D A [(a_m, .inr (8, [.long m_trace, .ref a_m_text, .int m_typed, .ref a_m_told, .ref a_m_draft, .ref a_m_s, .ref a_m_past, .int m_known, .ref a_m_images, .ref a_m_kept, .ref a_m_notes, .ref a_m_noted, .int m_many, .int m_at, .int m_sort, .int m_start, .int m_value, .ref a_m_held, .ref a_m_few])), (a_m_told, .inl (cI, 33, .inl m_told)), (a_m_s, .inl (cI, 51, .inl m_s))] H → va_S A s.heap H locs → lv_has ls 10 [(1, .int v1), (2, .int v2), (3, .int v3), (4, .int v4_72), (5, .int v5_72), (6, .int v6_72), (7, .int v7_72), (8, .int v8_124)] → W p l e rmX8_odds s m ([.ref a_m, .int v1, .int v2, .int v3] : List Value).toArray below meth c H locs 0 0 Q (F0 m 124 ls []) := by
        intro v8_124 hf H locs ls hPD hS hl
        obtain ⟨hP, hD⟩ := hPD
        unfold f_X8_odds_J124 at hf
        refine lv_iload hx hb dX8_odds_124 (lv_at hl 4 rfl) ?_
        refine lv_iload hx hb dX8_odds_126 (lv_at hl 6 rfl) ?_
        obtain ⟨u1, hu1, hf⟩ := bd_some hf
        refine cl_iS (As := [.int v7_72]) (rest := [.int v5_72]) ⟨hx, hb, hml, hown, hts⟩ (c_X8_ones l D cI cZ cR   v7_72 u1 hu1) (cw_X8_odds_X8_ones_136 hts) hE hP hD hS hA rfl hl.1 rfl (Nat.le_of_ble_eq_true rfl) dX8_odds_128 ⟨Nat.zero_le _, Nat.zero_le _⟩ (fun H locs hP hS => ?_)
        refine lv_iload_n hx hb dX8_odds_131 rfl (lv_at hl 1 rfl) ?_
        refine lv_icmp_lt (tgt := 140) hx hb dX8_odds_132 (by decide) (fun hc6 => ?_) (fun hc6 => ?_)
        · have hf := if_t hf hc6
          refine lv_iconst (v := 0) hx hb dX8_odds_140 (by decide) ?_
          refine lv_iadd hx hb dX8_odds_141 ?_
          refine lv_istore (lv' := [(5, .int (v5_72 + 0)), (1, .int v1), (2, .int v2), (3, .int v3), (4, .int v4_72), (6, .int v6_72), (7, .int v7_72), (8, .int v8_124)]) hx hb dX8_odds_142 hl (by decide) rfl (fun ls hl => ?_)
          refine lv_iinc (v := (v7_72 + 1)) (lv' := [(7, .int (v7_72 + 1)), (5, .int (v5_72 + 0)), (1, .int v1), (2, .int v2), (3, .int v3), (4, .int v4_72), (6, .int v6_72), (8, .int v8_124)]) hx hb dX8_odds_144 hl (k := 6) rfl (ii_p1 _) (by decide) rfl (fun ls hl => ?_)
          refine lv_goto (tgt := 72) hx hb dX8_odds_147 (by decide) ?_
          exact ih72 (v5_72 + 0) (v7_72 + 1) hf _ _ _ ⟨hP, hD⟩ hS (lv_sub hl [2, 3, 4, 5, 1, 6, 0] rfl)
        · have hf := if_f hf hc6
          refine lv_iload hx hb dX8_odds_135 (lv_at hl 7 rfl) ?_
          refine lv_goto (tgt := 141) hx hb dX8_odds_137 (by decide) ?_
          refine lv_iadd hx hb dX8_odds_141 ?_
          refine lv_istore (lv' := [(5, .int (v5_72 + v8_124)), (1, .int v1), (2, .int v2), (3, .int v3), (4, .int v4_72), (6, .int v6_72), (7, .int v7_72), (8, .int v8_124)]) hx hb dX8_odds_142 hl (by decide) rfl (fun ls hl => ?_)
          refine lv_iinc (v := (v7_72 + 1)) (lv' := [(7, .int (v7_72 + 1)), (5, .int (v5_72 + v8_124)), (1, .int v1), (2, .int v2), (3, .int v3), (4, .int v4_72), (6, .int v6_72), (8, .int v8_124)]) hx hb dX8_odds_144 hl (k := 6) rfl (ii_p1 _) (by decide) rfl (fun ls hl => ?_)
          refine lv_goto (tgt := 72) hx hb dX8_odds_147 (by decide) ?_
          exact ih72 (v5_72 + v8_124) (v7_72 + 1) hf _ _ _ ⟨hP, hD⟩ hS (lv_sub hl [2, 3, 4, 5, 1, 6, 0] rfl)
      have L87 : ∀ (n87 : Nat) (v8_87 : Int32) (v9_87 : Int32), f_X8_odds_L87 v4_72 v5_72 v7_72 v1 v2 (f_X8_odds_L72 v1 v2 v3 v4_72 v6_72 n72) n87 v8_87 v9_87 = some out → ∀ (H : Heap) (locs : List Loc) (ls : Array Slot), PD D A [(a_m, .inr (8, [.long m_trace, .ref a_m_text, .int m_typed, .ref a_m_told, .ref a_m_draft, .ref a_m_s, .ref a_m_past, .int m_known, .ref a_m_images, .ref a_m_kept, .ref a_m_notes, .ref a_m_noted, .int m_many, .int m_at, .int m_sort, .int m_start, .int m_value, .ref a_m_held, .ref a_m_few])), (a_m_told, .inl (cI, 33, .inl m_told)), (a_m_s, .inl (cI, 51, .inl m_s))] H → va_S A s.heap H locs → lv_has ls 10 [(1, .int v1), (2, .int v2), (3, .int v3), (4, .int v4_72), (5, .int v5_72), (6, .int v6_72), (7, .int v7_72), (8, .int v8_87), (9, .int v9_87)] → W p l e rmX8_odds s m ([.ref a_m, .int v1, .int v2, .int v3] : List Value).toArray below meth c H locs 0 0 Q (F0 m 87 ls []) := by
        intro  n87
        induction n87 with
        | zero => intro v8_87 v9_87 hf; cases hf
        | succ n87 ih87 =>
          intro v8_87 v9_87 hf H locs ls hPD hS hl
          obtain ⟨hP, hD⟩ := hPD
          have hf : f_X8_odds_B87 v4_72 v5_72 v7_72 v1 v2 (f_X8_odds_L72 v1 v2 v3 v4_72 v6_72 n72) (f_X8_odds_L87 v4_72 v5_72 v7_72 v1 v2 (f_X8_odds_L72 v1 v2 v3 v4_72 v6_72 n72) n87) v8_87 v9_87 = some out := hf
          unfold f_X8_odds_B87 at hf
          refine lv_iload hx hb dX8_odds_87 (lv_at hl 8 rfl) ?_
          refine lv_iload hx hb dX8_odds_89 (lv_at hl 3 rfl) ?_
          refine lv_icmp_ge (tgt := 124) hx hb dX8_odds_91 (by decide) (fun hc7 => ?_) (fun hc7 => ?_)
          · have hf := if_t hf hc7
            exact J124 v8_87 hf _ _ _ ⟨hP, hD⟩ hS (lv_sub hl [0, 1, 2, 3, 4, 5, 6, 7] rfl)
          · have hf := if_f hf hc7
            refine lv_iload hx hb dX8_odds_94 (lv_at hl 7 rfl) ?_
            refine lv_iload hx hb dX8_odds_96 (lv_at hl 6 rfl) ?_
            refine lv_iload hx hb dX8_odds_98 (lv_at hl 8 rfl) ?_
            refine lv_ishr hx hb dX8_odds_100 ?_
            refine lv_iconst (v := 1) hx hb dX8_odds_101 (by decide) ?_
            refine lv_iand hx hb dX8_odds_102 ?_
            refine lv_iconst (v := 1) hx hb dX8_odds_103 (by decide) ?_
            refine lv_icmp_ne (tgt := 114) hx hb dX8_odds_104 (by decide) (fun hc8 => ?_) (fun hc8 => ?_)
            · have hf := if_f hf hc8
              refine lv_iload_n hx hb dX8_odds_114 rfl (lv_at hl 0 rfl) ?_
              refine lv_imul hx hb dX8_odds_115 ?_
              refine lv_istore (lv' := [(8, .int (v8_87 * v1)), (1, .int v1), (2, .int v2), (3, .int v3), (4, .int v4_72), (5, .int v5_72), (6, .int v6_72), (7, .int v7_72), (9, .int v9_87)]) hx hb dX8_odds_116 hl (by decide) rfl (fun ls hl => ?_)
              refine lv_iinc (v := (v9_87 + 1)) (lv' := [(9, .int (v9_87 + 1)), (8, .int (v8_87 * v1)), (1, .int v1), (2, .int v2), (3, .int v3), (4, .int v4_72), (5, .int v5_72), (6, .int v6_72), (7, .int v7_72)]) hx hb dX8_odds_118 hl (k := 8) rfl (ii_p1 _) (by decide) rfl (fun ls hl => ?_)
              refine lv_goto (tgt := 87) hx hb dX8_odds_121 (by decide) ?_
              exact ih87 (v8_87 * v1) (v9_87 + 1) hf _ _ _ ⟨hP, hD⟩ hS (lv_sub hl [2, 3, 4, 5, 6, 7, 8, 1, 0] rfl)
            · have hf := if_t hf hc8
              refine lv_bipush (v := 10) hx hb dX8_odds_107 (by decide) ?_
              refine lv_iload_n hx hb dX8_odds_109 rfl (lv_at hl 0 rfl) ?_
              refine lv_isub hx hb dX8_odds_110 ?_
              refine lv_goto (tgt := 115) hx hb dX8_odds_111 (by decide) ?_
              refine lv_imul hx hb dX8_odds_115 ?_
              refine lv_istore (lv' := [(8, .int (v8_87 * (10 - v1))), (1, .int v1), (2, .int v2), (3, .int v3), (4, .int v4_72), (5, .int v5_72), (6, .int v6_72), (7, .int v7_72), (9, .int v9_87)]) hx hb dX8_odds_116 hl (by decide) rfl (fun ls hl => ?_)
              refine lv_iinc (v := (v9_87 + 1)) (lv' := [(9, .int (v9_87 + 1)), (8, .int (v8_87 * (10 - v1))), (1, .int v1), (2, .int v2), (3, .int v3), (4, .int v4_72), (5, .int v5_72), (6, .int v6_72), (7, .int v7_72)]) hx hb dX8_odds_118 hl (k := 8) rfl (ii_p1 _) (by decide) rfl (fun ls hl => ?_)
              refine lv_goto (tgt := 87) hx hb dX8_odds_121 (by decide) ?_
              exact ih87 (v8_87 * (10 - v1)) (v9_87 + 1) hf _ _ _ ⟨hP, hD⟩ hS (lv_sub hl [2, 3, 4, 5, 6, 7, 8, 1, 0] rfl)
      refine lv_iload hx hb dX8_odds_72 (lv_at hl 6 rfl) ?_
      refine lv_iconst (v := 1) hx hb dX8_odds_74 (by decide) ?_
      refine lv_iload hx hb dX8_odds_75 (lv_at hl 3 rfl) ?_
      refine lv_ishl hx hb dX8_odds_77 ?_
      refine lv_icmp_ge (tgt := 150) hx hb dX8_odds_78 (by decide) (fun hc9 => ?_) (fun hc9 => ?_)
      · have hf := if_t hf hc9
        refine lv_iload hx hb dX8_odds_150 (lv_at hl 4 rfl) ?_
        refine lv_istore (lv' := [(7, .int v5_72), (1, .int v1), (2, .int v2), (3, .int v3), (4, .int v4_72), (5, .int v5_72), (6, .int v6_72)]) hx hb dX8_odds_152 hl (by decide) rfl (fun ls hl => ?_)
        refine lv_iload hx hb dX8_odds_154 (lv_at hl 6 rfl) ?_
        refine lv_istore (lv' := [(8, .int v6_72), (7, .int v5_72), (1, .int v1), (2, .int v2), (3, .int v3), (4, .int v4_72), (5, .int v5_72), (6, .int v6_72)]) hx hb dX8_odds_156 hl (by decide) rfl (fun ls hl => ?_)
        exact L158 v5_72 v6_72 FU v5_72 v6_72 hf _ _ _ ⟨hP, hD⟩ hS (lv_sub hl [4, 6, 7, 1, 0] rfl)
      · have hf := if_f hf hc9
        refine lv_iconst (v := 1) hx hb dX8_odds_81 (by decide) ?_
        refine lv_istore (lv' := [(8, .int 1), (1, .int v1), (2, .int v2), (3, .int v3), (4, .int v4_72), (5, .int v5_72), (6, .int v6_72), (7, .int v7_72)]) hx hb dX8_odds_82 hl (by decide) rfl (fun ls hl => ?_)
        refine lv_iconst (v := 0) hx hb dX8_odds_84 (by decide) ?_
        refine lv_istore (lv' := [(9, .int 0), (8, .int 1), (1, .int v1), (2, .int v2), (3, .int v3), (4, .int v4_72), (5, .int v5_72), (6, .int v6_72), (7, .int v7_72)]) hx hb dX8_odds_85 hl (by decide) rfl (fun ls hl => ?_)
        exact L87  FU 1 0 hf _ _ _ ⟨hP, hD⟩ hS (lv_sub hl [2, 3, 4, 5, 6, 7, 8, 1, 0] rfl)
  have L49 : ∀ (v4_49 : Int32) (v5_49 : Int32) (n49 : Nat) (v6_49 : Int32) (v7_49 : Int32), f_X8_odds_L49 v1 v2 v3 v4_49 v5_49 n49 v6_49 v7_49 = some out → ∀ (H : Heap) (locs : List Loc) (ls : Array Slot), PD D A [(a_m, .inr (8, [.long m_trace, .ref a_m_text, .int m_typed, .ref a_m_told, .ref a_m_draft, .ref a_m_s, .ref a_m_past, .int m_known, .ref a_m_images, .ref a_m_kept, .ref a_m_notes, .ref a_m_noted, .int m_many, .int m_at, .int m_sort, .int m_start, .int m_value, .ref a_m_held, .ref a_m_few])), (a_m_told, .inl (cI, 33, .inl m_told)), (a_m_s, .inl (cI, 51, .inl m_s))] H → va_S A s.heap H locs → lv_has ls 10 [(1, .int v1), (2, .int v2), (3, .int v3), (4, .int v4_49), (5, .int v5_49), (6, .int v6_49), (7, .int v7_49)] → W p l e rmX8_odds s m ([.ref a_m, .int v1, .int v2, .int v3] : List Value).toArray below meth c H locs 0 0 Q (F0 m 49 ls []) := by
    intro v4_49 v5_49 n49
    induction n49 with
    | zero => intro v6_49 v7_49 hf; cases hf
    | succ n49 ih49 =>
      intro v6_49 v7_49 hf H locs ls hPD hS hl
      obtain ⟨hP, hD⟩ := hPD
      have hf : f_X8_odds_B49 v1 v2 v3 v4_49 v5_49 (f_X8_odds_L49 v1 v2 v3 v4_49 v5_49 n49) v6_49 v7_49 = some out := hf
      unfold f_X8_odds_B49 at hf
      refine lv_iload hx hb dX8_odds_49 (lv_at hl 6 rfl) ?_
      refine lv_iload hx hb dX8_odds_51 (lv_at hl 3 rfl) ?_
      refine lv_icmp_ge (tgt := 69) hx hb dX8_odds_53 (by decide) (fun hc10 => ?_) (fun hc10 => ?_)
      · have hf := if_t hf hc10
        refine lv_iconst (v := 0) hx hb dX8_odds_69 (by decide) ?_
        refine lv_istore (lv' := [(7, .int 0), (1, .int v1), (2, .int v2), (3, .int v3), (4, .int v4_49), (5, .int v5_49), (6, .int v6_49)]) hx hb dX8_odds_70 hl (by decide) rfl (fun ls hl => ?_)
        exact L72 v4_49 v6_49 FU v5_49 0 hf _ _ _ ⟨hP, hD⟩ hS (lv_sub hl [1, 2, 3, 4, 5, 6, 0] rfl)
      · have hf := if_f hf hc10
        refine lv_iload hx hb dX8_odds_56 (lv_at hl 5 rfl) ?_
        refine lv_bipush (v := 10) hx hb dX8_odds_58 (by decide) ?_
        refine lv_imul hx hb dX8_odds_60 ?_
        refine lv_istore (lv' := [(6, .int (v6_49 * 10)), (1, .int v1), (2, .int v2), (3, .int v3), (4, .int v4_49), (5, .int v5_49), (7, .int v7_49)]) hx hb dX8_odds_61 hl (by decide) rfl (fun ls hl => ?_)
        refine lv_iinc (v := (v7_49 + 1)) (lv' := [(7, .int (v7_49 + 1)), (6, .int (v6_49 * 10)), (1, .int v1), (2, .int v2), (3, .int v3), (4, .int v4_49), (5, .int v5_49)]) hx hb dX8_odds_63 hl (k := 6) rfl (ii_p1 _) (by decide) rfl (fun ls hl => ?_)
        refine lv_goto (tgt := 49) hx hb dX8_odds_66 (by decide) ?_
        exact ih49 (v6_49 * 10) (v7_49 + 1) hf _ _ _ ⟨hP, hD⟩ hS (lv_sub hl [2, 3, 4, 5, 6, 1, 0] rfl)
  refine lv_iload_n hx hb dX8_odds_0 rfl (lv_at hl 1 rfl) ?_
  refine lv_iconst (v := 0) hx hb dX8_odds_1 (by decide) ?_
  refine lv_bipush (v := 10) hx hb dX8_odds_2 (by decide) ?_
  obtain ⟨u2, hu2, hf⟩ := bd_some hf
  refine cl_iS (As := [.int v1, .int 0, .int 10]) (rest := []) ⟨hx, hb, hml, hown, hts⟩ (c_X8_in l D cI cZ cR   v1 0 10 u2 hu2) (cw_X8_odds_X8_in_51 hts) hE hP hD hS hA rfl hl.1 rfl (Nat.le_of_ble_eq_true rfl) dX8_odds_4 ⟨Nat.zero_le _, Nat.zero_le _⟩ (fun H locs hP hS => ?_)
  refine lv_if_eq (tgt := 29) hx hb dX8_odds_7 (by decide) (fun hc11 => ?_) (fun hc11 => ?_)
  · have hf := if_t hf hc11
    refine lv_iconst (v := (-1)) hx hb dX8_odds_29 (by decide) ?_
    have he := Option.some.inj hf
    subst he
    exact hret _ _ _ _ dX8_odds_30 rfl hP hD hS
  · have hf := if_f hf hc11
    refine lv_iload_n hx hb dX8_odds_10 rfl (lv_at hl 2 rfl) ?_
    refine lv_iconst (v := 0) hx hb dX8_odds_11 (by decide) ?_
    refine lv_bipush (v := 7) hx hb dX8_odds_12 (by decide) ?_
    obtain ⟨u3, hu3, hf⟩ := bd_some hf
    refine cl_iS (As := [.int v2, .int 0, .int 7]) (rest := []) ⟨hx, hb, hml, hown, hts⟩ (c_X8_in l D cI cZ cR   v2 0 7 u3 hu3) (cw_X8_odds_X8_in_51 hts) hE hP hD hS hA rfl hl.1 rfl (Nat.le_of_ble_eq_true rfl) dX8_odds_14 ⟨Nat.zero_le _, Nat.zero_le _⟩ (fun H locs hP hS => ?_)
    refine lv_if_eq (tgt := 29) hx hb dX8_odds_17 (by decide) (fun hc12 => ?_) (fun hc12 => ?_)
    · have hf := if_t hf hc12
      refine lv_iconst (v := (-1)) hx hb dX8_odds_29 (by decide) ?_
      have he := Option.some.inj hf
      subst he
      exact hret _ _ _ _ dX8_odds_30 rfl hP hD hS
    · have hf := if_f hf hc12
      refine lv_iload_n hx hb dX8_odds_20 rfl (lv_at hl 3 rfl) ?_
      refine lv_iconst (v := 0) hx hb dX8_odds_21 (by decide) ?_
      refine lv_iconst (v := 1) hx hb dX8_odds_22 (by decide) ?_
      obtain ⟨u4, hu4, hf⟩ := bd_some hf
      refine cl_iS (As := [.int v3, .int 0, .int 1]) (rest := []) ⟨hx, hb, hml, hown, hts⟩ (c_X8_in l D cI cZ cR   v3 0 1 u4 hu4) (cw_X8_odds_X8_in_51 hts) hE hP hD hS hA rfl hl.1 rfl (Nat.le_of_ble_eq_true rfl) dX8_odds_23 ⟨Nat.zero_le _, Nat.zero_le _⟩ (fun H locs hP hS => ?_)
      refine lv_if_ne (tgt := 31) hx hb dX8_odds_26 (by decide) (fun hc13 => ?_) (fun hc13 => ?_)
      · have hf := if_f hf hc13
        refine lv_aload_n hx hb dX8_odds_31 rfl (lv_at hl 0 rfl) ?_
        obtain ⟨u5, hu5, hf⟩ := bd_some hf
        refine cl_iV (As := []) (rest := []) ⟨hx, hb, hml, hown, hts⟩ (c_X8_allRead l D cI cZ cR a_m a_m_told a_m_s a_m_text a_m_draft a_m_past a_m_images a_m_kept a_m_notes a_m_noted a_m_held a_m_few m_trace m_typed m_known m_many m_at m_sort m_start m_value m_told m_s  u5 hu5) (cw_X8_odds_X8_allRead_111 hts) hE hP hD hS hA [0, 1, 2] rfl rfl [a_m, a_m_told, a_m_s] rfl rfl 0 8 rfl rfl rfl hl.1 rfl (Nat.le_of_ble_eq_true rfl) dX8_odds_32 ⟨Nat.zero_le _, Nat.zero_le _⟩ (fun H locs hP hD hS => ?_)
        have hPD : PD D A [(a_m, .inr (8, [.long m_trace, .ref a_m_text, .int m_typed, .ref a_m_told, .ref a_m_draft, .ref a_m_s, .ref a_m_past, .int m_known, .ref a_m_images, .ref a_m_kept, .ref a_m_notes, .ref a_m_noted, .int m_many, .int m_at, .int m_sort, .int m_start, .int m_value, .ref a_m_held, .ref a_m_few])), (a_m_told, .inl (cI, 33, .inl m_told)), (a_m_s, .inl (cI, 51, .inl m_s))] H := ⟨hP, hD⟩
        obtain ⟨hP, hD⟩ := hPD
        obtain ⟨u6, hu6, hf⟩ := bd_some hf
        refine cl_iS (As := [.int u5]) (rest := []) ⟨hx, hb, hml, hown, hts⟩ (c_X8_ones l D cI cZ cR   u5 u6 hu6) (cw_X8_odds_X8_ones_136 hts) hE hP hD hS hA rfl hl.1 rfl (Nat.le_of_ble_eq_true rfl) dX8_odds_35 ⟨Nat.zero_le _, Nat.zero_le _⟩ (fun H locs hP hS => ?_)
        refine lv_istore (lv' := [(4, .int u6), (0, .ref a_m), (1, .int v1), (2, .int v2), (3, .int v3)]) hx hb dX8_odds_38 hl (by decide) rfl (fun ls hl => ?_)
        refine lv_iconst (v := 0) hx hb dX8_odds_40 (by decide) ?_
        refine lv_istore (lv' := [(5, .int 0), (4, .int u6), (0, .ref a_m), (1, .int v1), (2, .int v2), (3, .int v3)]) hx hb dX8_odds_41 hl (by decide) rfl (fun ls hl => ?_)
        refine lv_iconst (v := 1) hx hb dX8_odds_43 (by decide) ?_
        refine lv_istore (lv' := [(6, .int 1), (5, .int 0), (4, .int u6), (0, .ref a_m), (1, .int v1), (2, .int v2), (3, .int v3)]) hx hb dX8_odds_44 hl (by decide) rfl (fun ls hl => ?_)
        refine lv_iconst (v := 0) hx hb dX8_odds_46 (by decide) ?_
        refine lv_istore (lv' := [(7, .int 0), (6, .int 1), (5, .int 0), (4, .int u6), (0, .ref a_m), (1, .int v1), (2, .int v2), (3, .int v3)]) hx hb dX8_odds_47 hl (by decide) rfl (fun ls hl => ?_)
        exact L49 u6 0 FU 1 0 hf _ _ _ ⟨hP, hD⟩ hS (lv_sub hl [5, 6, 7, 3, 2, 1, 0] rfl)
      · have hf := if_t hf hc13
        refine lv_iconst (v := (-1)) hx hb dX8_odds_29 (by decide) ?_
        have he := Option.some.inj hf
        subst he
        exact hret _ _ _ _ dX8_odds_30 rfl hP hD hS
abbrev rmX8_rate : Room := { frames := 2, cells := 0, slots := 0, locals := 43 }
theorem hiX8_rate_8 : ∀ w ∈ wsX80, w ∈ wsX8_rate := fun w h => (goodIn_r (big := wsX8_rate) wsX80 [22, 23, 24, 25, 26, 27, 28, 29, 30, 31, 32, 33, 34, 35, 36, 37, 38, 39, 40] rfl (by decide +kernel) w h).1
theorem cw_X8_rate_X8_full_98 {s : State} {args : Array Value} (hts : ∀ x ∈ wsX8_rate, x.before args s = true) : CallW rmX8_rate s args RX8 RX8 98 yX8_full cX8_full 4 (some .int) wsX8_full rmX8_full 0 0 1 := cwV 1 hts gX8_rate_X8_full rfl rfl rfl (by decide +kernel) ⟨Nat.le_of_ble_eq_true rfl, Nat.le_of_ble_eq_true rfl⟩
theorem cw_X8_rate_X8_in_51 {s : State} {args : Array Value} (hts : ∀ x ∈ wsX8_rate, x.before args s = true) : CallB rmX8_rate s args RX8 51 yX8_in cX8_in 3 (some .boolean) wsX8_in rmX8_in 0 0 3 ∧ (Cond.static yX8_in).before args s = true := va_cwS 3 hts gX8_rate_X8_in rfl rfl rfl (by decide +kernel) ⟨Nat.le_of_ble_eq_true rfl, Nat.le_of_ble_eq_true rfl⟩
theorem cw_X8_rate_X8_isPan_104 {s : State} {args : Array Value} (hts : ∀ x ∈ wsX8_rate, x.before args s = true) : CallW rmX8_rate s args RX8 RX8 104 yX8_isPan cX8_isPan 2 (some .boolean) wsX8_isPan rmX8_isPan 0 0 1 := cwV 1 hts gX8_rate_X8_isPan rfl rfl rfl (by decide +kernel) ⟨Nat.le_of_ble_eq_true rfl, Nat.le_of_ble_eq_true rfl⟩
set_option maxRecDepth 100000 in
set_option maxHeartbeats 4000000 in
theorem c_X8_rate (l : Launch) (D : va_G) (cI cZ cR : ClassId) (a_m : Nat) (a_m_told : Nat) (a_m_s : Nat) (a_m_text : Nat) (a_m_draft : Nat) (a_m_past : Nat) (a_m_images : Nat) (a_m_kept : Nat) (a_m_notes : Nat) (a_m_noted : Nat) (a_m_held : Nat) (a_m_few : Nat) (m_trace : Int64) (m_typed : Int32) (m_known : Int32) (m_many : Int32) (m_at : Int32) (m_sort : Int32) (m_start : Int32) (m_value : Int32) (m_told : Nat → Int32) (m_s : Nat → Int32) (v1 : Int32) (v2 : Int32) (out : Int32 × Int64) (hf : f_X8_rate m_trace m_told m_s v1 v2 = some out) : Ci l yX8_rate wsX8_rate rmX8_rate D cI cZ cR [.ref a_m, .int v1, .int v2] [(a_m, .inr (8, [.long m_trace, .ref a_m_text, .int m_typed, .ref a_m_told, .ref a_m_draft, .ref a_m_s, .ref a_m_past, .int m_known, .ref a_m_images, .ref a_m_kept, .ref a_m_notes, .ref a_m_noted, .int m_many, .int m_at, .int m_sort, .int m_start, .int m_value, .ref a_m_held, .ref a_m_few])), (a_m_told, .inl (cI, 33, .inl m_told)), (a_m_s, .inl (cI, 51, .inl m_s))] out.1 [(a_m, .inr (8, [.long out.2, .ref a_m_text, .int m_typed, .ref a_m_told, .ref a_m_draft, .ref a_m_s, .ref a_m_past, .int m_known, .ref a_m_images, .ref a_m_kept, .ref a_m_notes, .ref a_m_noted, .int m_many, .int m_at, .int m_sort, .int m_start, .int m_value, .ref a_m_held, .ref a_m_few])), (a_m_told, .inl (cI, 33, .inl m_told)), (a_m_s, .inl (cI, 51, .inl m_s))] := by
  refine ent_i (cc := cX8_rate) (maxL := 6) .int (by decide) rfl (Nat.le_of_ble_eq_true rfl) ?_
  intro p e s m below meth c A Q hx hb hml hown hts hE hA hP hD hS hret ls hl
  have hown : s.vm.findClass RX8 = some m.cls := hown
  have hl : lv_has ls 6 [(0, .ref a_m), (1, .int v1), (2, .int v2)] := hl
  have fL13 := hts (.fieldLink RX8 13 "RainShelvesModel" "told" "[I") (List.mem_of_getElem? (i := 8) rfl)
  have fL19 := hts (.fieldLink RX8 19 "RainShelvesModel" "s" "[I") (List.mem_of_getElem? (i := 9) rfl)
  have fL149 := hts (.fieldLink RX8 149 "RainShelvesModel" "trace" "J") (List.mem_of_getElem? (i := 2) rfl)
  have cL148 := hts (.constant RX8 148 (-1000000)) (List.mem_of_getElem? (i := 1) rfl)
  have cL153 := hts (.constantLong RX8 153 (11)) (List.mem_of_getElem? (i := 3) rfl)
  have cL155 := hts (.constantLong RX8 155 (101)) (List.mem_of_getElem? (i := 4) rfl)
  have cL157 := hts (.constantLong RX8 157 (1011)) (List.mem_of_getElem? (i := 5) rfl)
  have cL159 := hts (.constantLong RX8 159 (10101)) (List.mem_of_getElem? (i := 6) rfl)
  have cL161 := hts (.constantLong RX8 161 (100001)) (List.mem_of_getElem? (i := 7) rfl)
  unfold f_X8_rate at hf
  have J80 : ∀ (s1_80 : Int64) (s2_80 : Int64), f_X8_rate_J80 m_told m_s v1 v2 s1_80 s2_80 = some out → ∀ (H : Heap) (locs : List Loc) (ls : Array Slot), PD D A [(a_m, .inr (8, [.long m_trace, .ref a_m_text, .int m_typed, .ref a_m_told, .ref a_m_draft, .ref a_m_s, .ref a_m_past, .int m_known, .ref a_m_images, .ref a_m_kept, .ref a_m_notes, .ref a_m_noted, .int m_many, .int m_at, .int m_sort, .int m_start, .int m_value, .ref a_m_held, .ref a_m_few])), (a_m_told, .inl (cI, 33, .inl m_told)), (a_m_s, .inl (cI, 51, .inl m_s))] H → va_S A s.heap H locs → lv_has ls 6 [(0, .ref a_m), (1, .int v1), (2, .int v2)] → W p l e rmX8_rate s m ([.ref a_m, .int v1, .int v2] : List Value).toArray below meth c H locs 0 0 Q (F0 m 80 ls [.long s2_80, .long s1_80, .ref a_m]) := by
    intro s1_80 s2_80 hf H locs ls hPD hS hl
    obtain ⟨hP, hD⟩ := hPD
    unfold f_X8_rate_J80 at hf
    refine lv_ladd hx hb dX8_rate_80 ?_
    refine va_put (D := D) (ci := 8) (v := .long (s1_80 + s2_80)) (ty := .long) (C := RX8) (T := TX8) (N := 19) hx hb hts hiX8_rate_8 tyX8 tyX8_ok nmX8 hown hE.1 hP hD hS 0 rfl rfl 0 (by decide) fL149 (fun _ h9 => h9) rfl (tyX8_ok 0 (by decide)) rfl rfl (Nat.le_of_ble_eq_true rfl) dX8_rate_81 (fun H locs hP hD hS => ?_)
    have hPD : PD D A [(a_m, .inr (8, [.long (s1_80 + s2_80), .ref a_m_text, .int m_typed, .ref a_m_told, .ref a_m_draft, .ref a_m_s, .ref a_m_past, .int m_known, .ref a_m_images, .ref a_m_kept, .ref a_m_notes, .ref a_m_noted, .int m_many, .int m_at, .int m_sort, .int m_start, .int m_value, .ref a_m_held, .ref a_m_few])), (a_m_told, .inl (cI, 33, .inl m_told)), (a_m_s, .inl (cI, 51, .inl m_s))] H := ⟨hP, hD⟩
    obtain ⟨hP, hD⟩ := hPD
    refine lv_aload_n hx hb dX8_rate_84 rfl (lv_at hl 0 rfl) ?_
    refine lv_iload_n hx hb dX8_rate_85 rfl (lv_at hl 2 rfl) ?_
    obtain ⟨u1, hu1, hf⟩ := bd_some hf
    refine cl_iV (As := [.int v2]) (rest := []) ⟨hx, hb, hml, hown, hts⟩ (c_X8_full l D cI cZ cR a_m a_m_s a_m_text a_m_told a_m_draft a_m_past a_m_images a_m_kept a_m_notes a_m_noted a_m_held a_m_few (s1_80 + s2_80) m_typed m_known m_many m_at m_sort m_start m_value m_s v2 u1 hu1) (cw_X8_rate_X8_full_98 hts) hE hP hD hS hA [0, 2] rfl rfl [a_m, a_m_s] rfl rfl 0 8 rfl rfl rfl hl.1 rfl (Nat.le_of_ble_eq_true rfl) dX8_rate_86 ⟨Nat.zero_le _, Nat.zero_le _⟩ (fun H locs hP hD hS => ?_)
    have hPD : PD D A [(a_m, .inr (8, [.long (s1_80 + s2_80), .ref a_m_text, .int m_typed, .ref a_m_told, .ref a_m_draft, .ref a_m_s, .ref a_m_past, .int m_known, .ref a_m_images, .ref a_m_kept, .ref a_m_notes, .ref a_m_noted, .int m_many, .int m_at, .int m_sort, .int m_start, .int m_value, .ref a_m_held, .ref a_m_few])), (a_m_told, .inl (cI, 33, .inl m_told)), (a_m_s, .inl (cI, 51, .inl m_s))] H := ⟨hP, hD⟩
    obtain ⟨hP, hD⟩ := hPD
    refine lv_istore_n (lv' := [(3, .int u1), (0, .ref a_m), (1, .int v1), (2, .int v2)]) hx hb dX8_rate_89 rfl hl (by decide) rfl (fun ls hl => ?_)
    refine lv_iload_n hx hb dX8_rate_90 rfl (lv_at hl 0 rfl) ?_
    refine lv_aload_n hx hb dX8_rate_91 rfl (lv_at hl 1 rfl) ?_
    refine va_get (D := D) (ci := 8) (v := .ref a_m_told) (C := RX8) (T := TX8) (N := 19) hx hb hts hiX8_rate_8 hown hE.1 hP 0 rfl rfl 3 (by decide) fL13 (fun _ h9 => h9) rfl dX8_rate_92 ?_
    refine lv_bipush (v := 19) hx hb dX8_rate_95 (by decide) ?_
    refine lv_iload_n hx hb dX8_rate_97 rfl (lv_at hl 3 rfl) ?_
    refine lv_iadd hx hb dX8_rate_98 ?_
    obtain ⟨hc1, hf⟩ := ck_some hf
    refine va_iald hx hb hE.1 hP 1 0 rfl rfl (ix_in hc1) dX8_rate_99 ?_
    refine lv_iadd hx hb dX8_rate_100 ?_
    refine lv_istore (lv' := [(4, .int (u1 + (m_told (19 + v2).toNatClampNeg))), (3, .int u1), (0, .ref a_m), (1, .int v1), (2, .int v2)]) hx hb dX8_rate_101 hl (by decide) rfl (fun ls hl => ?_)
    refine lv_iload_n hx hb dX8_rate_103 rfl (lv_at hl 1 rfl) ?_
    refine lv_aload_n hx hb dX8_rate_104 rfl (lv_at hl 2 rfl) ?_
    refine va_get (D := D) (ci := 8) (v := .ref a_m_told) (C := RX8) (T := TX8) (N := 19) hx hb hts hiX8_rate_8 hown hE.1 hP 0 rfl rfl 3 (by decide) fL13 (fun _ h9 => h9) rfl dX8_rate_105 ?_
    refine lv_iconst (v := 5) hx hb dX8_rate_108 (by decide) ?_
    refine lv_iload_n hx hb dX8_rate_109 rfl (lv_at hl 4 rfl) ?_
    refine lv_iadd hx hb dX8_rate_110 ?_
    obtain ⟨hc2, hf⟩ := ck_some hf
    refine va_iald hx hb hE.1 hP 1 0 rfl rfl (ix_in hc2) dX8_rate_111 ?_
    refine lv_isub hx hb dX8_rate_112 ?_
    refine lv_istore (lv' := [(5, .int (u1 - (m_told (5 + v2).toNatClampNeg))), (4, .int (u1 + (m_told (19 + v2).toNatClampNeg))), (3, .int u1), (0, .ref a_m), (1, .int v1), (2, .int v2)]) hx hb dX8_rate_113 hl (by decide) rfl (fun ls hl => ?_)
    refine lv_iload_n hx hb dX8_rate_115 rfl (lv_at hl 4 rfl) ?_
    refine lv_if_ne (tgt := 123) hx hb dX8_rate_116 (by decide) (fun hc3 => ?_) (fun hc3 => ?_)
    · have hf := if_f hf hc3
      refine lv_iload_n hx hb dX8_rate_123 rfl (lv_at hl 4 rfl) ?_
      refine lv_iconst (v := 1) hx hb dX8_rate_124 (by decide) ?_
      refine lv_icmp_ne (tgt := 133) hx hb dX8_rate_125 (by decide) (fun hc4 => ?_) (fun hc4 => ?_)
      · have hf := if_f hf hc4
        refine lv_iload_n hx hb dX8_rate_133 rfl (lv_at hl 4 rfl) ?_
        refine lv_iconst (v := 2) hx hb dX8_rate_134 (by decide) ?_
        refine lv_icmp_ne (tgt := 143) hx hb dX8_rate_135 (by decide) (fun hc5 => ?_) (fun hc5 => ?_)
        · have hf := if_f hf hc5
          refine lv_iload_n hx hb dX8_rate_143 rfl (lv_at hl 4 rfl) ?_
          refine lv_iconst (v := 3) hx hb dX8_rate_144 (by decide) ?_
          refine lv_icmp_ne (tgt := 155) hx hb dX8_rate_145 (by decide) (fun hc6 => ?_) (fun hc6 => ?_)
          · have hf := if_f hf hc6
            refine lv_iload_n hx hb dX8_rate_155 rfl (lv_at hl 4 rfl) ?_
            refine lv_iconst (v := 4) hx hb dX8_rate_156 (by decide) ?_
            refine lv_icmp_ne (tgt := 167) hx hb dX8_rate_157 (by decide) (fun hc7 => ?_) (fun hc7 => ?_)
            · have hf := if_f hf hc7
              refine lv_iload_n hx hb dX8_rate_167 rfl (lv_at hl 2 rfl) ?_
              refine lv_aload_n hx hb dX8_rate_168 rfl (lv_at hl 3 rfl) ?_
              refine va_get (D := D) (ci := 8) (v := .ref a_m_s) (C := RX8) (T := TX8) (N := 19) hx hb hts hiX8_rate_8 hown hE.1 hP 0 rfl rfl 5 (by decide) fL19 (fun _ h9 => h9) rfl dX8_rate_169 ?_
              refine lv_bipush (v := 49) hx hb dX8_rate_172 (by decide) ?_
              obtain ⟨hc8, hf⟩ := ck_some hf
              refine va_iald hx hb hE.1 hP 2 0 rfl rfl (ix_in hc8) dX8_rate_174 ?_
              refine lv_iadd hx hb dX8_rate_175 ?_
              have he := Option.some.inj hf
              subst he
              exact hret _ _ _ _ dX8_rate_176 rfl hP hD hS
            · have hf := if_t hf hc7
              refine lv_iload hx hb dX8_rate_160 (lv_at hl 0 rfl) ?_
              refine lv_iload_n hx hb dX8_rate_162 rfl (lv_at hl 5 rfl) ?_
              refine lv_iadd hx hb dX8_rate_163 ?_
              refine lv_goto (tgt := 176) hx hb dX8_rate_164 (by decide) ?_
              have he := Option.some.inj hf
              subst he
              exact hret _ _ _ _ dX8_rate_176 rfl hP hD hS
          · have hf := if_t hf hc6
            refine lv_iconst (v := 2) hx hb dX8_rate_148 (by decide) ?_
            refine lv_iload hx hb dX8_rate_149 (lv_at hl 1 rfl) ?_
            refine lv_imul hx hb dX8_rate_151 ?_
            refine lv_goto (tgt := 176) hx hb dX8_rate_152 (by decide) ?_
            have he := Option.some.inj hf
            subst he
            exact hret _ _ _ _ dX8_rate_176 rfl hP hD hS
        · have hf := if_t hf hc5
          refine lv_iload hx hb dX8_rate_138 (lv_at hl 0 rfl) ?_
          refine lv_goto (tgt := 176) hx hb dX8_rate_140 (by decide) ?_
          have he := Option.some.inj hf
          subst he
          exact hret _ _ _ _ dX8_rate_176 rfl hP hD hS
      · have hf := if_t hf hc4
        refine lv_iload hx hb dX8_rate_128 (lv_at hl 1 rfl) ?_
        refine lv_goto (tgt := 176) hx hb dX8_rate_130 (by decide) ?_
        have he := Option.some.inj hf
        subst he
        exact hret _ _ _ _ dX8_rate_176 rfl hP hD hS
    · have hf := if_t hf hc3
      refine lv_iload_n hx hb dX8_rate_119 rfl (lv_at hl 2 rfl) ?_
      refine lv_goto (tgt := 176) hx hb dX8_rate_120 (by decide) ?_
      have he := Option.some.inj hf
      subst he
      exact hret _ _ _ _ dX8_rate_176 rfl hP hD hS
  refine lv_iload_n hx hb dX8_rate_0 rfl (lv_at hl 1 rfl) ?_
  refine lv_iconst (v := 0) hx hb dX8_rate_1 (by decide) ?_
  refine lv_iconst (v := 5) hx hb dX8_rate_2 (by decide) ?_
  obtain ⟨u2, hu2, hf⟩ := bd_some hf
  refine cl_iS (As := [.int v1, .int 0, .int 5]) (rest := []) ⟨hx, hb, hml, hown, hts⟩ (c_X8_in l D cI cZ cR   v1 0 5 u2 hu2) (cw_X8_rate_X8_in_51 hts) hE hP hD hS hA rfl hl.1 rfl (Nat.le_of_ble_eq_true rfl) dX8_rate_3 ⟨Nat.zero_le _, Nat.zero_le _⟩ (fun H locs hP hS => ?_)
  refine lv_if_eq (tgt := 17) hx hb dX8_rate_6 (by decide) (fun hc9 => ?_) (fun hc9 => ?_)
  · have hf := if_t hf hc9
    refine lv_ldc (v := (-1000000)) hx hb hown cL148 dX8_rate_17 ?_
    have he := Option.some.inj hf
    subst he
    exact hret _ _ _ _ dX8_rate_19 rfl hP hD hS
  · have hf := if_f hf hc9
    refine lv_aload_n hx hb dX8_rate_9 rfl (lv_at hl 0 rfl) ?_
    refine lv_iload_n hx hb dX8_rate_10 rfl (lv_at hl 2 rfl) ?_
    obtain ⟨u3, hu3, hf⟩ := bd_some hf
    refine cl_iV (As := [.int v2]) (rest := []) ⟨hx, hb, hml, hown, hts⟩ (c_X8_isPan l D cI cZ cR a_m a_m_told a_m_text a_m_draft a_m_s a_m_past a_m_images a_m_kept a_m_notes a_m_noted a_m_held a_m_few m_trace m_typed m_known m_many m_at m_sort m_start m_value m_told v2 u3 hu3) (cw_X8_rate_X8_isPan_104 hts) hE hP hD hS hA [0, 1] rfl rfl [a_m, a_m_told] rfl rfl 0 8 rfl rfl rfl hl.1 rfl (Nat.le_of_ble_eq_true rfl) dX8_rate_11 ⟨Nat.zero_le _, Nat.zero_le _⟩ (fun H locs hP hD hS => ?_)
    have hPD : PD D A [(a_m, .inr (8, [.long m_trace, .ref a_m_text, .int m_typed, .ref a_m_told, .ref a_m_draft, .ref a_m_s, .ref a_m_past, .int m_known, .ref a_m_images, .ref a_m_kept, .ref a_m_notes, .ref a_m_noted, .int m_many, .int m_at, .int m_sort, .int m_start, .int m_value, .ref a_m_held, .ref a_m_few])), (a_m_told, .inl (cI, 33, .inl m_told)), (a_m_s, .inl (cI, 51, .inl m_s))] H := ⟨hP, hD⟩
    obtain ⟨hP, hD⟩ := hPD
    refine lv_if_ne (tgt := 20) hx hb dX8_rate_14 (by decide) (fun hc10 => ?_) (fun hc10 => ?_)
    · have hf := if_f hf hc10
      refine lv_aload_n hx hb dX8_rate_20 rfl (lv_at hl 0 rfl) ?_
      refine lv_dup hx hb dX8_rate_21 rfl ?_
      refine va_get (D := D) (ci := 8) (v := .long m_trace) (C := RX8) (T := TX8) (N := 19) hx hb hts hiX8_rate_8 hown hE.1 hP 0 rfl rfl 0 (by decide) fL149 (fun _ h9 => h9) rfl dX8_rate_22 ?_
      refine lv_iload_n hx hb dX8_rate_25 rfl (lv_at hl 1 rfl) ?_
      refine lv_if_ne (tgt := 33) hx hb dX8_rate_26 (by decide) (fun hc11 => ?_) (fun hc11 => ?_)
      · have hf := if_f hf hc11
        refine lv_iload_n hx hb dX8_rate_33 rfl (lv_at hl 1 rfl) ?_
        refine lv_iconst (v := 1) hx hb dX8_rate_34 (by decide) ?_
        refine lv_icmp_ne (tgt := 44) hx hb dX8_rate_35 (by decide) (fun hc12 => ?_) (fun hc12 => ?_)
        · have hf := if_f hf hc12
          refine lv_iload_n hx hb dX8_rate_44 rfl (lv_at hl 1 rfl) ?_
          refine lv_iconst (v := 2) hx hb dX8_rate_45 (by decide) ?_
          refine lv_icmp_ne (tgt := 55) hx hb dX8_rate_46 (by decide) (fun hc13 => ?_) (fun hc13 => ?_)
          · have hf := if_f hf hc13
            refine lv_iload_n hx hb dX8_rate_55 rfl (lv_at hl 1 rfl) ?_
            refine lv_iconst (v := 3) hx hb dX8_rate_56 (by decide) ?_
            refine lv_icmp_ne (tgt := 66) hx hb dX8_rate_57 (by decide) (fun hc14 => ?_) (fun hc14 => ?_)
            · have hf := if_f hf hc14
              refine lv_iload_n hx hb dX8_rate_66 rfl (lv_at hl 1 rfl) ?_
              refine lv_iconst (v := 4) hx hb dX8_rate_67 (by decide) ?_
              refine lv_icmp_ne (tgt := 77) hx hb dX8_rate_68 (by decide) (fun hc15 => ?_) (fun hc15 => ?_)
              · have hf := if_f hf hc15
                refine lv_ldc2 (v := 100001) hx hb hown cL161 dX8_rate_77 ?_
                exact J80 m_trace 100001 hf _ _ _ ⟨hP, hD⟩ hS hl
              · have hf := if_t hf hc15
                refine lv_ldc2 (v := 10101) hx hb hown cL159 dX8_rate_71 ?_
                refine lv_goto (tgt := 80) hx hb dX8_rate_74 (by decide) ?_
                exact J80 m_trace 10101 hf _ _ _ ⟨hP, hD⟩ hS hl
            · have hf := if_t hf hc14
              refine lv_ldc2 (v := 1011) hx hb hown cL157 dX8_rate_60 ?_
              refine lv_goto (tgt := 80) hx hb dX8_rate_63 (by decide) ?_
              exact J80 m_trace 1011 hf _ _ _ ⟨hP, hD⟩ hS hl
          · have hf := if_t hf hc13
            refine lv_ldc2 (v := 101) hx hb hown cL155 dX8_rate_49 ?_
            refine lv_goto (tgt := 80) hx hb dX8_rate_52 (by decide) ?_
            exact J80 m_trace 101 hf _ _ _ ⟨hP, hD⟩ hS hl
        · have hf := if_t hf hc12
          refine lv_ldc2 (v := 11) hx hb hown cL153 dX8_rate_38 ?_
          refine lv_goto (tgt := 80) hx hb dX8_rate_41 (by decide) ?_
          exact J80 m_trace 11 hf _ _ _ ⟨hP, hD⟩ hS hl
      · have hf := if_t hf hc11
        refine lv_lconst (v := 1) hx hb dX8_rate_29 (by decide) ?_
        refine lv_goto (tgt := 80) hx hb dX8_rate_30 (by decide) ?_
        exact J80 m_trace 1 hf _ _ _ ⟨hP, hD⟩ hS hl
    · have hf := if_t hf hc10
      refine lv_ldc (v := (-1000000)) hx hb hown cL148 dX8_rate_17 ?_
      have he := Option.some.inj hf
      subst he
      exact hret _ _ _ _ dX8_rate_19 rfl hP hD hS
abbrev rmX8_keep : Room := { frames := 1, cells := 0, slots := 0, locals := 22 }
theorem hiX8_keep_8 : ∀ w ∈ wsX80, w ∈ wsX8_keep := fun w h => (goodIn_r (big := wsX8_keep) wsX80 [8, 9, 10, 11, 12, 13, 14, 15, 16, 17, 18, 19, 20, 21, 22, 23, 24, 25, 26] rfl (by decide +kernel) w h).1
theorem cw_X8_keep_X8_in_51 {s : State} {args : Array Value} (hts : ∀ x ∈ wsX8_keep, x.before args s = true) : CallB rmX8_keep s args RX8 51 yX8_in cX8_in 3 (some .boolean) wsX8_in rmX8_in 0 0 3 ∧ (Cond.static yX8_in).before args s = true := va_cwS 3 hts gX8_keep_X8_in rfl rfl rfl (by decide +kernel) ⟨Nat.le_of_ble_eq_true rfl, Nat.le_of_ble_eq_true rfl⟩
set_option maxRecDepth 100000 in
set_option maxHeartbeats 4000000 in
theorem c_X8_keep (l : Launch) (D : va_G) (cI cZ cR : ClassId) (a_m : Nat) (a_m_s : Nat) (a_m_images : Nat) (a_m_kept : Nat) (a_m_text : Nat) (a_m_told : Nat) (a_m_draft : Nat) (a_m_past : Nat) (a_m_notes : Nat) (a_m_noted : Nat) (a_m_held : Nat) (a_m_few : Nat) (m_trace : Int64) (m_typed : Int32) (m_known : Int32) (m_many : Int32) (m_at : Int32) (m_sort : Int32) (m_start : Int32) (m_value : Int32) (m_s : Nat → Int32) (m_images : Nat → Int32) (m_kept : Nat → Int32) (v1 : Int32) (out : Int32 × (Nat → Int32) × (Nat → Int32)) (hf : f_X8_keep m_s m_images m_kept v1 = some out) : Ci l yX8_keep wsX8_keep rmX8_keep D cI cZ cR [.ref a_m, .int v1] [(a_m, .inr (8, [.long m_trace, .ref a_m_text, .int m_typed, .ref a_m_told, .ref a_m_draft, .ref a_m_s, .ref a_m_past, .int m_known, .ref a_m_images, .ref a_m_kept, .ref a_m_notes, .ref a_m_noted, .int m_many, .int m_at, .int m_sort, .int m_start, .int m_value, .ref a_m_held, .ref a_m_few])), (a_m_s, .inl (cI, 51, .inl m_s)), (a_m_images, .inl (cI, 102, .inl m_images)), (a_m_kept, .inl (cZ, 2, .inl m_kept))] out.1 [(a_m, .inr (8, [.long m_trace, .ref a_m_text, .int m_typed, .ref a_m_told, .ref a_m_draft, .ref a_m_s, .ref a_m_past, .int m_known, .ref a_m_images, .ref a_m_kept, .ref a_m_notes, .ref a_m_noted, .int m_many, .int m_at, .int m_sort, .int m_start, .int m_value, .ref a_m_held, .ref a_m_few])), (a_m_s, .inl (cI, 51, .inl m_s)), (a_m_images, .inl (cI, 102, .inl out.2.1)), (a_m_kept, .inl (cZ, 2, .inl out.2.2))] := by
  refine ent_i (cc := cX8_keep) (maxL := 3) .int (by decide) rfl (Nat.le_of_ble_eq_true rfl) ?_
  intro p e s m below meth c A Q hx hb hml hown hts hE hA hP hD hS hret ls hl
  have hown : s.vm.findClass RX8 = some m.cls := hown
  have hl : lv_has ls 3 [(0, .ref a_m), (1, .int v1)] := hl
  have fL19 := hts (.fieldLink RX8 19 "RainShelvesModel" "s" "[I") (List.mem_of_getElem? (i := 2) rfl)
  have fL25 := hts (.fieldLink RX8 25 "RainShelvesModel" "images" "[I") (List.mem_of_getElem? (i := 1) rfl)
  have fL28 := hts (.fieldLink RX8 28 "RainShelvesModel" "kept" "[Z") (List.mem_of_getElem? (i := 3) rfl)
  unfold f_X8_keep at hf
  have J42 : ∀ (m_images_42 : Nat → Int32), f_X8_keep_J42 m_s m_kept v1 m_images_42 = some out → ∀ (H : Heap) (locs : List Loc) (ls : Array Slot), PD D A [(a_m, .inr (8, [.long m_trace, .ref a_m_text, .int m_typed, .ref a_m_told, .ref a_m_draft, .ref a_m_s, .ref a_m_past, .int m_known, .ref a_m_images, .ref a_m_kept, .ref a_m_notes, .ref a_m_noted, .int m_many, .int m_at, .int m_sort, .int m_start, .int m_value, .ref a_m_held, .ref a_m_few])), (a_m_s, .inl (cI, 51, .inl m_s)), (a_m_images, .inl (cI, 102, .inl m_images_42)), (a_m_kept, .inl (cZ, 2, .inl m_kept))] H → va_S A s.heap H locs → lv_has ls 3 [(0, .ref a_m), (1, .int v1)] → W p l e rmX8_keep s m ([.ref a_m, .int v1] : List Value).toArray below meth c H locs 0 0 Q (F0 m 42 ls []) := by
    intro m_images_42 hf H locs ls hPD hS hl
    obtain ⟨hP, hD⟩ := hPD
    unfold f_X8_keep_J42 at hf
    refine lv_aload_n hx hb dX8_keep_42 rfl (lv_at hl 0 rfl) ?_
    refine va_get (D := D) (ci := 8) (v := .ref a_m_kept) (C := RX8) (T := TX8) (N := 19) hx hb hts hiX8_keep_8 hown hE.1 hP 0 rfl rfl 9 (by decide) fL28 (fun _ h9 => h9) rfl dX8_keep_43 ?_
    refine lv_iload_n hx hb dX8_keep_46 rfl (lv_at hl 1 rfl) ?_
    refine lv_iconst (v := 1) hx hb dX8_keep_47 (by decide) ?_
    obtain ⟨hc1, hf⟩ := ck_some hf
    refine va_zast hx hb hE.1 hP hD hS 3 1 rfl rfl (ix_in hc1) dX8_keep_48 (fun H locs hP hD hS => ?_)
    have hPD : PD D A [(a_m, .inr (8, [.long m_trace, .ref a_m_text, .int m_typed, .ref a_m_told, .ref a_m_draft, .ref a_m_s, .ref a_m_past, .int m_known, .ref a_m_images, .ref a_m_kept, .ref a_m_notes, .ref a_m_noted, .int m_many, .int m_at, .int m_sort, .int m_start, .int m_value, .ref a_m_held, .ref a_m_few])), (a_m_s, .inl (cI, 51, .inl m_s)), (a_m_images, .inl (cI, 102, .inl m_images_42)), (a_m_kept, .inl (cZ, 2, .inl (upd m_kept v1.toNatClampNeg 1)))] H := ⟨hP, hD⟩
    obtain ⟨hP, hD⟩ := hPD
    refine lv_aload_n hx hb dX8_keep_49 rfl (lv_at hl 0 rfl) ?_
    refine va_get (D := D) (ci := 8) (v := .ref a_m_s) (C := RX8) (T := TX8) (N := 19) hx hb hts hiX8_keep_8 hown hE.1 hP 0 rfl rfl 5 (by decide) fL19 (fun _ h9 => h9) rfl dX8_keep_50 ?_
    refine lv_bipush (v := 49) hx hb dX8_keep_53 (by decide) ?_
    obtain ⟨hc2, hf⟩ := ck_some hf
    refine va_iald hx hb hE.1 hP 1 0 rfl rfl (ix_in hc2) dX8_keep_55 ?_
    have he := Option.some.inj hf
    subst he
    exact hret _ _ _ _ dX8_keep_56 rfl hP hD hS
  have L13 : ∀ (n13 : Nat) (v2_13 : Int32) (m_images_13 : Nat → Int32), f_X8_keep_L13 m_s m_kept v1 n13 v2_13 m_images_13 = some out → ∀ (H : Heap) (locs : List Loc) (ls : Array Slot), PD D A [(a_m, .inr (8, [.long m_trace, .ref a_m_text, .int m_typed, .ref a_m_told, .ref a_m_draft, .ref a_m_s, .ref a_m_past, .int m_known, .ref a_m_images, .ref a_m_kept, .ref a_m_notes, .ref a_m_noted, .int m_many, .int m_at, .int m_sort, .int m_start, .int m_value, .ref a_m_held, .ref a_m_few])), (a_m_s, .inl (cI, 51, .inl m_s)), (a_m_images, .inl (cI, 102, .inl m_images_13)), (a_m_kept, .inl (cZ, 2, .inl m_kept))] H → va_S A s.heap H locs → lv_has ls 3 [(0, .ref a_m), (1, .int v1), (2, .int v2_13)] → W p l e rmX8_keep s m ([.ref a_m, .int v1] : List Value).toArray below meth c H locs 0 0 Q (F0 m 13 ls []) := by
    intro  n13
    induction n13 with
    | zero => intro v2_13 m_images_13 hf; cases hf
    | succ n13 ih13 =>
      intro v2_13 m_images_13 hf H locs ls hPD hS hl
      obtain ⟨hP, hD⟩ := hPD
      have hf : f_X8_keep_B13 m_s m_kept v1 (f_X8_keep_L13 m_s m_kept v1 n13) v2_13 m_images_13 = some out := hf
      unfold f_X8_keep_B13 at hf
      refine lv_iload_n hx hb dX8_keep_13 rfl (lv_at hl 2 rfl) ?_
      refine lv_bipush (v := 51) hx hb dX8_keep_14 (by decide) ?_
      refine lv_icmp_ge (tgt := 42) hx hb dX8_keep_16 (by decide) (fun hc3 => ?_) (fun hc3 => ?_)
      · have hf := if_t hf hc3
        exact J42 m_images_13 hf _ _ _ ⟨hP, hD⟩ hS (lv_sub hl [0, 1] rfl)
      · have hf := if_f hf hc3
        refine lv_aload_n hx hb dX8_keep_19 rfl (lv_at hl 0 rfl) ?_
        refine va_get (D := D) (ci := 8) (v := .ref a_m_images) (C := RX8) (T := TX8) (N := 19) hx hb hts hiX8_keep_8 hown hE.1 hP 0 rfl rfl 8 (by decide) fL25 (fun _ h9 => h9) rfl dX8_keep_20 ?_
        refine lv_bipush (v := 51) hx hb dX8_keep_23 (by decide) ?_
        refine lv_iload_n hx hb dX8_keep_25 rfl (lv_at hl 1 rfl) ?_
        refine lv_imul hx hb dX8_keep_26 ?_
        refine lv_iload_n hx hb dX8_keep_27 rfl (lv_at hl 2 rfl) ?_
        refine lv_iadd hx hb dX8_keep_28 ?_
        refine lv_aload_n hx hb dX8_keep_29 rfl (lv_at hl 0 rfl) ?_
        refine va_get (D := D) (ci := 8) (v := .ref a_m_s) (C := RX8) (T := TX8) (N := 19) hx hb hts hiX8_keep_8 hown hE.1 hP 0 rfl rfl 5 (by decide) fL19 (fun _ h9 => h9) rfl dX8_keep_30 ?_
        refine lv_iload_n hx hb dX8_keep_33 rfl (lv_at hl 2 rfl) ?_
        obtain ⟨hc4, hf⟩ := ck_some hf
        refine va_iald hx hb hE.1 hP 1 0 rfl rfl (ix_in hc4) dX8_keep_34 ?_
        obtain ⟨hc5, hf⟩ := ck_some hf
        refine va_iast hx hb hE.1 hP hD hS 2 0 rfl rfl (ix_in hc5) dX8_keep_35 (fun H locs hP hD hS => ?_)
        have hPD : PD D A [(a_m, .inr (8, [.long m_trace, .ref a_m_text, .int m_typed, .ref a_m_told, .ref a_m_draft, .ref a_m_s, .ref a_m_past, .int m_known, .ref a_m_images, .ref a_m_kept, .ref a_m_notes, .ref a_m_noted, .int m_many, .int m_at, .int m_sort, .int m_start, .int m_value, .ref a_m_held, .ref a_m_few])), (a_m_s, .inl (cI, 51, .inl m_s)), (a_m_images, .inl (cI, 102, .inl (upd m_images_13 ((51 * v1) + v2_13).toNatClampNeg (m_s v2_13.toNatClampNeg)))), (a_m_kept, .inl (cZ, 2, .inl m_kept))] H := ⟨hP, hD⟩
        obtain ⟨hP, hD⟩ := hPD
        refine lv_iinc (v := (v2_13 + 1)) (lv' := [(2, .int (v2_13 + 1)), (0, .ref a_m), (1, .int v1)]) hx hb dX8_keep_36 hl (k := 2) rfl (ii_p1 _) (by decide) rfl (fun ls hl => ?_)
        refine lv_goto (tgt := 13) hx hb dX8_keep_39 (by decide) ?_
        exact ih13 (v2_13 + 1) (upd m_images_13 ((51 * v1) + v2_13).toNatClampNeg (m_s v2_13.toNatClampNeg)) hf _ _ _ ⟨hP, hD⟩ hS (lv_sub hl [1, 2, 0] rfl)
  refine lv_iload_n hx hb dX8_keep_0 rfl (lv_at hl 1 rfl) ?_
  refine lv_iconst (v := 0) hx hb dX8_keep_1 (by decide) ?_
  refine lv_iconst (v := 1) hx hb dX8_keep_2 (by decide) ?_
  obtain ⟨u1, hu1, hf⟩ := bd_some hf
  refine cl_iS (As := [.int v1, .int 0, .int 1]) (rest := []) ⟨hx, hb, hml, hown, hts⟩ (c_X8_in l D cI cZ cR   v1 0 1 u1 hu1) (cw_X8_keep_X8_in_51 hts) hE hP hD hS hA rfl hl.1 rfl (Nat.le_of_ble_eq_true rfl) dX8_keep_3 ⟨Nat.zero_le _, Nat.zero_le _⟩ (fun H locs hP hS => ?_)
  refine lv_if_ne (tgt := 11) hx hb dX8_keep_6 (by decide) (fun hc6 => ?_) (fun hc6 => ?_)
  · have hf := if_f hf hc6
    refine lv_iconst (v := 0) hx hb dX8_keep_11 (by decide) ?_
    refine lv_istore_n (lv' := [(2, .int 0), (0, .ref a_m), (1, .int v1)]) hx hb dX8_keep_12 rfl hl (by decide) rfl (fun ls hl => ?_)
    exact L13  FU 0 m_images hf _ _ _ ⟨hP, hD⟩ hS (lv_sub hl [1, 2, 0] rfl)
  · have hf := if_t hf hc6
    refine lv_iconst (v := (-1)) hx hb dX8_keep_9 (by decide) ?_
    have he := Option.some.inj hf
    subst he
    exact hret _ _ _ _ dX8_keep_10 rfl hP hD hS
abbrev rmX8_back : Room := { frames := 1, cells := 0, slots := 0, locals := 22 }
theorem hiX8_back_8 : ∀ w ∈ wsX80, w ∈ wsX8_back := fun w h => (goodIn_r (big := wsX8_back) wsX80 [9, 10, 11, 12, 13, 14, 15, 16, 17, 18, 19, 20, 21, 22, 23, 24, 25, 26, 27] rfl (by decide +kernel) w h).1
theorem cw_X8_back_X8_in_51 {s : State} {args : Array Value} (hts : ∀ x ∈ wsX8_back, x.before args s = true) : CallB rmX8_back s args RX8 51 yX8_in cX8_in 3 (some .boolean) wsX8_in rmX8_in 0 0 3 ∧ (Cond.static yX8_in).before args s = true := va_cwS 3 hts gX8_back_X8_in rfl rfl rfl (by decide +kernel) ⟨Nat.le_of_ble_eq_true rfl, Nat.le_of_ble_eq_true rfl⟩
set_option maxRecDepth 100000 in
set_option maxHeartbeats 4000000 in
theorem c_X8_back (l : Launch) (D : va_G) (cI cZ cR : ClassId) (a_m : Nat) (a_m_kept : Nat) (a_m_images : Nat) (a_m_s : Nat) (a_m_text : Nat) (a_m_told : Nat) (a_m_draft : Nat) (a_m_past : Nat) (a_m_notes : Nat) (a_m_noted : Nat) (a_m_held : Nat) (a_m_few : Nat) (m_trace : Int64) (m_typed : Int32) (m_known : Int32) (m_many : Int32) (m_at : Int32) (m_sort : Int32) (m_start : Int32) (m_value : Int32) (m_kept : Nat → Int32) (m_images : Nat → Int32) (m_s : Nat → Int32) (v1 : Int32) (out : Int32 × Int32 × (Nat → Int32)) (hf : f_X8_back m_known m_kept m_images m_s v1 = some out) : Ci l yX8_back wsX8_back rmX8_back D cI cZ cR [.ref a_m, .int v1] [(a_m, .inr (8, [.long m_trace, .ref a_m_text, .int m_typed, .ref a_m_told, .ref a_m_draft, .ref a_m_s, .ref a_m_past, .int m_known, .ref a_m_images, .ref a_m_kept, .ref a_m_notes, .ref a_m_noted, .int m_many, .int m_at, .int m_sort, .int m_start, .int m_value, .ref a_m_held, .ref a_m_few])), (a_m_kept, .inl (cZ, 2, .inl m_kept)), (a_m_images, .inl (cI, 102, .inl m_images)), (a_m_s, .inl (cI, 51, .inl m_s))] out.1 [(a_m, .inr (8, [.long m_trace, .ref a_m_text, .int m_typed, .ref a_m_told, .ref a_m_draft, .ref a_m_s, .ref a_m_past, .int out.2.1, .ref a_m_images, .ref a_m_kept, .ref a_m_notes, .ref a_m_noted, .int m_many, .int m_at, .int m_sort, .int m_start, .int m_value, .ref a_m_held, .ref a_m_few])), (a_m_kept, .inl (cZ, 2, .inl m_kept)), (a_m_images, .inl (cI, 102, .inl m_images)), (a_m_s, .inl (cI, 51, .inl out.2.2))] := by
  refine ent_i (cc := cX8_back) (maxL := 3) .int (by decide) rfl (Nat.le_of_ble_eq_true rfl) ?_
  intro p e s m below meth c A Q hx hb hml hown hts hE hA hP hD hS hret ls hl
  have hown : s.vm.findClass RX8 = some m.cls := hown
  have hl : lv_has ls 3 [(0, .ref a_m), (1, .int v1)] := hl
  have fL19 := hts (.fieldLink RX8 19 "RainShelvesModel" "s" "[I") (List.mem_of_getElem? (i := 2) rfl)
  have fL25 := hts (.fieldLink RX8 25 "RainShelvesModel" "images" "[I") (List.mem_of_getElem? (i := 3) rfl)
  have fL28 := hts (.fieldLink RX8 28 "RainShelvesModel" "kept" "[Z") (List.mem_of_getElem? (i := 1) rfl)
  have fL92 := hts (.fieldLink RX8 92 "RainShelvesModel" "known" "I") (List.mem_of_getElem? (i := 4) rfl)
  unfold f_X8_back at hf
  have J54 : ∀ (m_s_54 : Nat → Int32), f_X8_back_J54 m_s_54 = some out → ∀ (H : Heap) (locs : List Loc) (ls : Array Slot), PD D A [(a_m, .inr (8, [.long m_trace, .ref a_m_text, .int m_typed, .ref a_m_told, .ref a_m_draft, .ref a_m_s, .ref a_m_past, .int m_known, .ref a_m_images, .ref a_m_kept, .ref a_m_notes, .ref a_m_noted, .int m_many, .int m_at, .int m_sort, .int m_start, .int m_value, .ref a_m_held, .ref a_m_few])), (a_m_kept, .inl (cZ, 2, .inl m_kept)), (a_m_images, .inl (cI, 102, .inl m_images)), (a_m_s, .inl (cI, 51, .inl m_s_54))] H → va_S A s.heap H locs → lv_has ls 3 [(0, .ref a_m)] → W p l e rmX8_back s m ([.ref a_m, .int v1] : List Value).toArray below meth c H locs 0 0 Q (F0 m 54 ls []) := by
    intro m_s_54 hf H locs ls hPD hS hl
    obtain ⟨hP, hD⟩ := hPD
    unfold f_X8_back_J54 at hf
    refine lv_aload_n hx hb dX8_back_54 rfl (lv_at hl 0 rfl) ?_
    refine lv_iconst (v := 0) hx hb dX8_back_55 (by decide) ?_
    refine va_put (D := D) (ci := 8) (v := .int 0) (ty := .int) (C := RX8) (T := TX8) (N := 19) hx hb hts hiX8_back_8 tyX8 tyX8_ok nmX8 hown hE.1 hP hD hS 0 rfl rfl 7 (by decide) fL92 (fun _ h9 => h9) rfl (tyX8_ok 7 (by decide)) rfl rfl (Nat.le_of_ble_eq_true rfl) dX8_back_56 (fun H locs hP hD hS => ?_)
    have hPD : PD D A [(a_m, .inr (8, [.long m_trace, .ref a_m_text, .int m_typed, .ref a_m_told, .ref a_m_draft, .ref a_m_s, .ref a_m_past, .int 0, .ref a_m_images, .ref a_m_kept, .ref a_m_notes, .ref a_m_noted, .int m_many, .int m_at, .int m_sort, .int m_start, .int m_value, .ref a_m_held, .ref a_m_few])), (a_m_kept, .inl (cZ, 2, .inl m_kept)), (a_m_images, .inl (cI, 102, .inl m_images)), (a_m_s, .inl (cI, 51, .inl m_s_54))] H := ⟨hP, hD⟩
    obtain ⟨hP, hD⟩ := hPD
    refine lv_aload_n hx hb dX8_back_59 rfl (lv_at hl 0 rfl) ?_
    refine va_get (D := D) (ci := 8) (v := .ref a_m_s) (C := RX8) (T := TX8) (N := 19) hx hb hts hiX8_back_8 hown hE.1 hP 0 rfl rfl 5 (by decide) fL19 (fun _ h9 => h9) rfl dX8_back_60 ?_
    refine lv_bipush (v := 49) hx hb dX8_back_63 (by decide) ?_
    obtain ⟨hc1, hf⟩ := ck_some hf
    refine va_iald hx hb hE.1 hP 3 0 rfl rfl (ix_in hc1) dX8_back_65 ?_
    have he := Option.some.inj hf
    subst he
    exact hret _ _ _ _ dX8_back_66 rfl hP hD hS
  have L25 : ∀ (n25 : Nat) (v2_25 : Int32) (m_s_25 : Nat → Int32), f_X8_back_L25 m_images v1 n25 v2_25 m_s_25 = some out → ∀ (H : Heap) (locs : List Loc) (ls : Array Slot), PD D A [(a_m, .inr (8, [.long m_trace, .ref a_m_text, .int m_typed, .ref a_m_told, .ref a_m_draft, .ref a_m_s, .ref a_m_past, .int m_known, .ref a_m_images, .ref a_m_kept, .ref a_m_notes, .ref a_m_noted, .int m_many, .int m_at, .int m_sort, .int m_start, .int m_value, .ref a_m_held, .ref a_m_few])), (a_m_kept, .inl (cZ, 2, .inl m_kept)), (a_m_images, .inl (cI, 102, .inl m_images)), (a_m_s, .inl (cI, 51, .inl m_s_25))] H → va_S A s.heap H locs → lv_has ls 3 [(0, .ref a_m), (1, .int v1), (2, .int v2_25)] → W p l e rmX8_back s m ([.ref a_m, .int v1] : List Value).toArray below meth c H locs 0 0 Q (F0 m 25 ls []) := by
    intro  n25
    induction n25 with
    | zero => intro v2_25 m_s_25 hf; cases hf
    | succ n25 ih25 =>
      intro v2_25 m_s_25 hf H locs ls hPD hS hl
      obtain ⟨hP, hD⟩ := hPD
      have hf : f_X8_back_B25 m_images v1 (f_X8_back_L25 m_images v1 n25) v2_25 m_s_25 = some out := hf
      unfold f_X8_back_B25 at hf
      refine lv_iload_n hx hb dX8_back_25 rfl (lv_at hl 2 rfl) ?_
      refine lv_bipush (v := 51) hx hb dX8_back_26 (by decide) ?_
      refine lv_icmp_ge (tgt := 54) hx hb dX8_back_28 (by decide) (fun hc2 => ?_) (fun hc2 => ?_)
      · have hf := if_t hf hc2
        exact J54 m_s_25 hf _ _ _ ⟨hP, hD⟩ hS (lv_sub hl [0] rfl)
      · have hf := if_f hf hc2
        refine lv_aload_n hx hb dX8_back_31 rfl (lv_at hl 0 rfl) ?_
        refine va_get (D := D) (ci := 8) (v := .ref a_m_s) (C := RX8) (T := TX8) (N := 19) hx hb hts hiX8_back_8 hown hE.1 hP 0 rfl rfl 5 (by decide) fL19 (fun _ h9 => h9) rfl dX8_back_32 ?_
        refine lv_iload_n hx hb dX8_back_35 rfl (lv_at hl 2 rfl) ?_
        refine lv_aload_n hx hb dX8_back_36 rfl (lv_at hl 0 rfl) ?_
        refine va_get (D := D) (ci := 8) (v := .ref a_m_images) (C := RX8) (T := TX8) (N := 19) hx hb hts hiX8_back_8 hown hE.1 hP 0 rfl rfl 8 (by decide) fL25 (fun _ h9 => h9) rfl dX8_back_37 ?_
        refine lv_bipush (v := 51) hx hb dX8_back_40 (by decide) ?_
        refine lv_iload_n hx hb dX8_back_42 rfl (lv_at hl 1 rfl) ?_
        refine lv_imul hx hb dX8_back_43 ?_
        refine lv_iload_n hx hb dX8_back_44 rfl (lv_at hl 2 rfl) ?_
        refine lv_iadd hx hb dX8_back_45 ?_
        obtain ⟨hc3, hf⟩ := ck_some hf
        refine va_iald hx hb hE.1 hP 2 0 rfl rfl (ix_in hc3) dX8_back_46 ?_
        obtain ⟨hc4, hf⟩ := ck_some hf
        refine va_iast hx hb hE.1 hP hD hS 3 0 rfl rfl (ix_in hc4) dX8_back_47 (fun H locs hP hD hS => ?_)
        have hPD : PD D A [(a_m, .inr (8, [.long m_trace, .ref a_m_text, .int m_typed, .ref a_m_told, .ref a_m_draft, .ref a_m_s, .ref a_m_past, .int m_known, .ref a_m_images, .ref a_m_kept, .ref a_m_notes, .ref a_m_noted, .int m_many, .int m_at, .int m_sort, .int m_start, .int m_value, .ref a_m_held, .ref a_m_few])), (a_m_kept, .inl (cZ, 2, .inl m_kept)), (a_m_images, .inl (cI, 102, .inl m_images)), (a_m_s, .inl (cI, 51, .inl (upd m_s_25 v2_25.toNatClampNeg (m_images ((51 * v1) + v2_25).toNatClampNeg))))] H := ⟨hP, hD⟩
        obtain ⟨hP, hD⟩ := hPD
        refine lv_iinc (v := (v2_25 + 1)) (lv' := [(2, .int (v2_25 + 1)), (0, .ref a_m), (1, .int v1)]) hx hb dX8_back_48 hl (k := 2) rfl (ii_p1 _) (by decide) rfl (fun ls hl => ?_)
        refine lv_goto (tgt := 25) hx hb dX8_back_51 (by decide) ?_
        exact ih25 (v2_25 + 1) (upd m_s_25 v2_25.toNatClampNeg (m_images ((51 * v1) + v2_25).toNatClampNeg)) hf _ _ _ ⟨hP, hD⟩ hS (lv_sub hl [1, 2, 0] rfl)
  refine lv_iload_n hx hb dX8_back_0 rfl (lv_at hl 1 rfl) ?_
  refine lv_iconst (v := 0) hx hb dX8_back_1 (by decide) ?_
  refine lv_iconst (v := 1) hx hb dX8_back_2 (by decide) ?_
  obtain ⟨u1, hu1, hf⟩ := bd_some hf
  refine cl_iS (As := [.int v1, .int 0, .int 1]) (rest := []) ⟨hx, hb, hml, hown, hts⟩ (c_X8_in l D cI cZ cR   v1 0 1 u1 hu1) (cw_X8_back_X8_in_51 hts) hE hP hD hS hA rfl hl.1 rfl (Nat.le_of_ble_eq_true rfl) dX8_back_3 ⟨Nat.zero_le _, Nat.zero_le _⟩ (fun H locs hP hS => ?_)
  refine lv_if_ne (tgt := 11) hx hb dX8_back_6 (by decide) (fun hc5 => ?_) (fun hc5 => ?_)
  · have hf := if_f hf hc5
    refine lv_aload_n hx hb dX8_back_11 rfl (lv_at hl 0 rfl) ?_
    refine va_get (D := D) (ci := 8) (v := .ref a_m_kept) (C := RX8) (T := TX8) (N := 19) hx hb hts hiX8_back_8 hown hE.1 hP 0 rfl rfl 9 (by decide) fL28 (fun _ h9 => h9) rfl dX8_back_12 ?_
    refine lv_iload_n hx hb dX8_back_15 rfl (lv_at hl 1 rfl) ?_
    obtain ⟨hc6, hf⟩ := ck_some hf
    refine va_zald hx hb hE.1 hP 1 1 rfl rfl (ix_in hc6) dX8_back_16 ?_
    refine lv_if_ne (tgt := 23) hx hb dX8_back_17 (by decide) (fun hc7 => ?_) (fun hc7 => ?_)
    · have hf := if_f hf hc7
      refine lv_iconst (v := 0) hx hb dX8_back_23 (by decide) ?_
      refine lv_istore_n (lv' := [(2, .int 0), (0, .ref a_m), (1, .int v1)]) hx hb dX8_back_24 rfl hl (by decide) rfl (fun ls hl => ?_)
      exact L25  FU 0 m_s hf _ _ _ ⟨hP, hD⟩ hS (lv_sub hl [1, 2, 0] rfl)
    · have hf := if_t hf hc7
      refine lv_bipush (v := (-2)) hx hb dX8_back_20 (by decide) ?_
      have he := Option.some.inj hf
      subst he
      exact hret _ _ _ _ dX8_back_22 rfl hP hD hS
  · have hf := if_t hf hc5
    refine lv_iconst (v := (-1)) hx hb dX8_back_9 (by decide) ?_
    have he := Option.some.inj hf
    subst he
    exact hret _ _ _ _ dX8_back_10 rfl hP hD hS
abbrev rmX8_count : Room := { frames := 0, cells := 0, slots := 0, locals := 0 }
theorem hiX8_count_8 : ∀ w ∈ wsX80, w ∈ wsX8_count := fun w h => (goodIn_r (big := wsX8_count) wsX80 [4, 5, 6, 7, 8, 9, 10, 11, 12, 13, 14, 15, 16, 17, 18, 19, 20, 21, 22] rfl (by decide +kernel) w h).1
set_option maxRecDepth 100000 in
set_option maxHeartbeats 4000000 in
theorem c_X8_count (l : Launch) (D : va_G) (cI cZ cR : ClassId) (a_m : Nat) (a_m_told : Nat) (a_m_text : Nat) (a_m_draft : Nat) (a_m_s : Nat) (a_m_past : Nat) (a_m_images : Nat) (a_m_kept : Nat) (a_m_notes : Nat) (a_m_noted : Nat) (a_m_held : Nat) (a_m_few : Nat) (m_trace : Int64) (m_typed : Int32) (m_known : Int32) (m_many : Int32) (m_at : Int32) (m_sort : Int32) (m_start : Int32) (m_value : Int32) (m_told : Nat → Int32) (v1 : Int32) (out : Int32) (hf : f_X8_count m_typed m_many m_told v1 = some out) : Ci l yX8_count wsX8_count rmX8_count D cI cZ cR [.ref a_m, .int v1] [(a_m, .inr (8, [.long m_trace, .ref a_m_text, .int m_typed, .ref a_m_told, .ref a_m_draft, .ref a_m_s, .ref a_m_past, .int m_known, .ref a_m_images, .ref a_m_kept, .ref a_m_notes, .ref a_m_noted, .int m_many, .int m_at, .int m_sort, .int m_start, .int m_value, .ref a_m_held, .ref a_m_few])), (a_m_told, .inl (cI, 33, .inl m_told))] out [(a_m, .inr (8, [.long m_trace, .ref a_m_text, .int m_typed, .ref a_m_told, .ref a_m_draft, .ref a_m_s, .ref a_m_past, .int m_known, .ref a_m_images, .ref a_m_kept, .ref a_m_notes, .ref a_m_noted, .int m_many, .int m_at, .int m_sort, .int m_start, .int m_value, .ref a_m_held, .ref a_m_few])), (a_m_told, .inl (cI, 33, .inl m_told))] := by
  refine ent_i (cc := cX8_count) (maxL := 2) .int (by decide) rfl (Nat.le_of_ble_eq_true rfl) ?_
  intro p e s m below meth c A Q hx hb hml hown hts hE hA hP hD hS hret ls hl
  have hown : s.vm.findClass RX8 = some m.cls := hown
  have hl : lv_has ls 2 [(0, .ref a_m), (1, .int v1)] := hl
  have fL13 := hts (.fieldLink RX8 13 "RainShelvesModel" "told" "[I") (List.mem_of_getElem? (i := 1) rfl)
  have fL55 := hts (.fieldLink RX8 55 "RainShelvesModel" "typed" "I") (List.mem_of_getElem? (i := 3) rfl)
  have fL95 := hts (.fieldLink RX8 95 "RainShelvesModel" "many" "I") (List.mem_of_getElem? (i := 2) rfl)
  unfold f_X8_count at hf
  refine lv_iload_n hx hb dX8_count_0 rfl (lv_at hl 1 rfl) ?_
  by_cases hc1 : v1 = 0
  · have hf := if_t hf hc1
    refine lv_tableIn (off := 35) (tgt := 36) hx hb dX8_count_1 (by rw [hc1]; decide) (by rw [hc1]; decide) (by rw [hc1]; rfl) (by decide) ?_
    refine lv_aload_n hx hb dX8_count_36 rfl (lv_at hl 0 rfl) ?_
    refine va_get (D := D) (ci := 8) (v := .ref a_m_told) (C := RX8) (T := TX8) (N := 19) hx hb hts hiX8_count_8 hown hE.1 hP 0 rfl rfl 3 (by decide) fL13 (fun _ h9 => h9) rfl dX8_count_37 ?_
    refine lv_iconst (v := 0) hx hb dX8_count_40 (by decide) ?_
    obtain ⟨hc2, hf⟩ := ck_some hf
    refine va_iald hx hb hE.1 hP 1 0 rfl rfl (ix_in hc2) dX8_count_41 ?_
    have he := Option.some.inj hf
    subst he
    exact hret _ _ _ _ dX8_count_42 rfl hP hD hS
  have hf := if_f hf hc1
  by_cases hc3 : v1 = 1
  · have hf := if_t hf hc3
    refine lv_tableIn (off := 42) (tgt := 43) hx hb dX8_count_1 (by rw [hc3]; decide) (by rw [hc3]; decide) (by rw [hc3]; rfl) (by decide) ?_
    refine lv_aload_n hx hb dX8_count_43 rfl (lv_at hl 0 rfl) ?_
    refine va_get (D := D) (ci := 8) (v := .ref a_m_told) (C := RX8) (T := TX8) (N := 19) hx hb hts hiX8_count_8 hown hE.1 hP 0 rfl rfl 3 (by decide) fL13 (fun _ h9 => h9) rfl dX8_count_44 ?_
    refine lv_iconst (v := 1) hx hb dX8_count_47 (by decide) ?_
    obtain ⟨hc4, hf⟩ := ck_some hf
    refine va_iald hx hb hE.1 hP 1 0 rfl rfl (ix_in hc4) dX8_count_48 ?_
    have he := Option.some.inj hf
    subst he
    exact hret _ _ _ _ dX8_count_49 rfl hP hD hS
  have hf := if_f hf hc3
  by_cases hc5 : v1 = 2
  · have hf := if_t hf hc5
    refine lv_tableIn (off := 49) (tgt := 50) hx hb dX8_count_1 (by rw [hc5]; decide) (by rw [hc5]; decide) (by rw [hc5]; rfl) (by decide) ?_
    refine lv_aload_n hx hb dX8_count_50 rfl (lv_at hl 0 rfl) ?_
    refine va_get (D := D) (ci := 8) (v := .ref a_m_told) (C := RX8) (T := TX8) (N := 19) hx hb hts hiX8_count_8 hown hE.1 hP 0 rfl rfl 3 (by decide) fL13 (fun _ h9 => h9) rfl dX8_count_51 ?_
    refine lv_iconst (v := 2) hx hb dX8_count_54 (by decide) ?_
    obtain ⟨hc6, hf⟩ := ck_some hf
    refine va_iald hx hb hE.1 hP 1 0 rfl rfl (ix_in hc6) dX8_count_55 ?_
    have he := Option.some.inj hf
    subst he
    exact hret _ _ _ _ dX8_count_56 rfl hP hD hS
  have hf := if_f hf hc5
  by_cases hc7 : v1 = 3
  · have hf := if_t hf hc7
    refine lv_tableIn (off := 56) (tgt := 57) hx hb dX8_count_1 (by rw [hc7]; decide) (by rw [hc7]; decide) (by rw [hc7]; rfl) (by decide) ?_
    refine lv_aload_n hx hb dX8_count_57 rfl (lv_at hl 0 rfl) ?_
    refine va_get (D := D) (ci := 8) (v := .int m_many) (C := RX8) (T := TX8) (N := 19) hx hb hts hiX8_count_8 hown hE.1 hP 0 rfl rfl 12 (by decide) fL95 (fun _ h9 => h9) rfl dX8_count_58 ?_
    have he := Option.some.inj hf
    subst he
    exact hret _ _ _ _ dX8_count_61 rfl hP hD hS
  have hf := if_f hf hc7
  by_cases hc8 : v1 = 4
  · have hf := if_t hf hc8
    refine lv_tableIn (off := 61) (tgt := 62) hx hb dX8_count_1 (by rw [hc8]; decide) (by rw [hc8]; decide) (by rw [hc8]; rfl) (by decide) ?_
    refine lv_aload_n hx hb dX8_count_62 rfl (lv_at hl 0 rfl) ?_
    refine va_get (D := D) (ci := 8) (v := .int m_typed) (C := RX8) (T := TX8) (N := 19) hx hb hts hiX8_count_8 hown hE.1 hP 0 rfl rfl 2 (by decide) fL55 (fun _ h9 => h9) rfl dX8_count_63 ?_
    have he := Option.some.inj hf
    subst he
    exact hret _ _ _ _ dX8_count_66 rfl hP hD hS
  have hf := if_f hf hc8
  refine lv_tableOut (tgt := 67) hx hb dX8_count_1 (by have q0 : ¬ (v1).toInt = 0 := fun e => hc1 (Int32.toInt_inj.mp (e.trans (by decide))); have q1 : ¬ (v1).toInt = 1 := fun e => hc3 (Int32.toInt_inj.mp (e.trans (by decide))); have q2 : ¬ (v1).toInt = 2 := fun e => hc5 (Int32.toInt_inj.mp (e.trans (by decide))); have q3 : ¬ (v1).toInt = 3 := fun e => hc7 (Int32.toInt_inj.mp (e.trans (by decide))); have q4 : ¬ (v1).toInt = 4 := fun e => hc8 (Int32.toInt_inj.mp (e.trans (by decide))); omega) (by decide) ?_
  refine lv_iconst (v := (-1)) hx hb dX8_count_67 (by decide) ?_
  have he := Option.some.inj hf
  subst he
  exact hret _ _ _ _ dX8_count_68 rfl hP hD hS
abbrev rmX8_trace : Room := { frames := 0, cells := 0, slots := 0, locals := 0 }
theorem hiX8_trace_8 : ∀ w ∈ wsX80, w ∈ wsX8_trace := fun w h => (goodIn_r (big := wsX8_trace) wsX80 [2, 3, 4, 5, 6, 7, 8, 9, 10, 11, 12, 13, 14, 15, 16, 17, 18, 19, 20] rfl (by decide +kernel) w h).1
set_option maxRecDepth 100000 in
set_option maxHeartbeats 4000000 in
theorem c_X8_trace (l : Launch) (D : va_G) (cI cZ cR : ClassId) (a_m : Nat) (a_m_text : Nat) (a_m_told : Nat) (a_m_draft : Nat) (a_m_s : Nat) (a_m_past : Nat) (a_m_images : Nat) (a_m_kept : Nat) (a_m_notes : Nat) (a_m_noted : Nat) (a_m_held : Nat) (a_m_few : Nat) (m_trace : Int64) (m_typed : Int32) (m_known : Int32) (m_many : Int32) (m_at : Int32) (m_sort : Int32) (m_start : Int32) (m_value : Int32) (out : Int64) (hf : f_X8_trace m_trace = some out) : Cl l yX8_trace wsX8_trace rmX8_trace D cI cZ cR [.ref a_m] [(a_m, .inr (8, [.long m_trace, .ref a_m_text, .int m_typed, .ref a_m_told, .ref a_m_draft, .ref a_m_s, .ref a_m_past, .int m_known, .ref a_m_images, .ref a_m_kept, .ref a_m_notes, .ref a_m_noted, .int m_many, .int m_at, .int m_sort, .int m_start, .int m_value, .ref a_m_held, .ref a_m_few]))] out [(a_m, .inr (8, [.long m_trace, .ref a_m_text, .int m_typed, .ref a_m_told, .ref a_m_draft, .ref a_m_s, .ref a_m_past, .int m_known, .ref a_m_images, .ref a_m_kept, .ref a_m_notes, .ref a_m_noted, .int m_many, .int m_at, .int m_sort, .int m_start, .int m_value, .ref a_m_held, .ref a_m_few]))] := by
  refine ent_l (cc := cX8_trace) (maxL := 1) (by decide) rfl (Nat.le_of_ble_eq_true rfl) ?_
  intro p e s m below meth c A Q hx hb hml hown hts hE hA hP hD hS hret ls hl
  have hown : s.vm.findClass RX8 = some m.cls := hown
  have hl : lv_has ls 1 [(0, .ref a_m)] := hl
  have fL149 := hts (.fieldLink RX8 149 "RainShelvesModel" "trace" "J") (List.mem_of_getElem? (i := 1) rfl)
  unfold f_X8_trace at hf
  refine lv_aload_n hx hb dX8_trace_0 rfl (lv_at hl 0 rfl) ?_
  refine va_get (D := D) (ci := 8) (v := .long m_trace) (C := RX8) (T := TX8) (N := 19) hx hb hts hiX8_trace_8 hown hE.1 hP 0 rfl rfl 0 (by decide) fL149 (fun _ h9 => h9) rfl dX8_trace_1 ?_
  have he := Option.some.inj hf
  subst he
  exact hret _ _ _ _ dX8_trace_4 hP hD hS
