abbrev rmX0_addPan : Room := { frames := 0, cells := 0, slots := 0, locals := 0 }
theorem hiX0_addPan_0 : ∀ w ∈ wsX00, w ∈ wsX0_addPan := fun w h => (goodIn_r (big := wsX0_addPan) wsX00 [2, 3, 4] rfl (by decide +kernel) w h).1
set_option maxRecDepth 100000 in
set_option maxHeartbeats 4000000 in
theorem c_X0_addPan (l : Launch) (D : va_G) (cI cZ cR : ClassId) (a_frost : Nat) (a_frost_cases : Nat) (frost_upper : Int32) (frost_lower : Int32) (frost_cases : Nat → Int32) (v1 : Int32) (out : (Nat → Int32)) (hf : f_X0_addPan frost_cases v1 = some out) : Cv l yX0_addPan wsX0_addPan rmX0_addPan D cI cZ cR [.ref a_frost, .int v1] [(a_frost, .inr (0, [.ref a_frost_cases, .int frost_upper, .int frost_lower])), (a_frost_cases, .inl (cI, 8, .inl frost_cases))] [(a_frost, .inr (0, [.ref a_frost_cases, .int frost_upper, .int frost_lower])), (a_frost_cases, .inl (cI, 8, .inl out))] := by
  refine ent_v (cc := cX0_addPan) (maxL := 3) (by decide) rfl (Nat.le_of_ble_eq_true rfl) ?_
  intro p e s m below meth c A Q hx hb hml hown hts hE hA hP hD hS hret ls hl
  have hown : s.vm.findClass RX0 = some m.cls := hown
  have hl : lv_has ls 3 [(0, .ref a_frost), (1, .int v1)] := hl
  have fL9 := hts (.fieldLink RX0 9 "RainShelves$Frost" "cases" "[I") (List.mem_of_getElem? (i := 1) rfl)
  unfold f_X0_addPan at hf
  have J41 : ∀ (frost_cases_41 : Nat → Int32), f_X0_addPan_J41 v1 frost_cases_41 = some out → ∀ (H : Heap) (locs : List Loc) (ls : Array Slot), PD D A [(a_frost, .inr (0, [.ref a_frost_cases, .int frost_upper, .int frost_lower])), (a_frost_cases, .inl (cI, 8, .inl frost_cases_41))] H → va_S A s.heap H locs → lv_has ls 3 [(0, .ref a_frost), (1, .int v1)] → W p l e rmX0_addPan s m ([.ref a_frost, .int v1] : List Value).toArray below meth c H locs 0 0 Q (F0 m 41 ls []) := by
    intro frost_cases_41 hf H locs ls hPD hS hl
    obtain ⟨hP, hD⟩ := hPD
    unfold f_X0_addPan_J41 at hf
    refine lv_aload_n hx hb dX0_addPan_41 rfl (lv_at hl 0 rfl) ?_
    refine va_get (D := D) (ci := 0) (v := .ref a_frost_cases) (C := RX0) (T := TX0) (N := 3) hx hb hts hiX0_addPan_0 hown hE.1 hP 0 rfl rfl 0 (by decide) fL9 (fun _ h9 => h9) rfl dX0_addPan_42 ?_
    refine lv_iconst (v := 0) hx hb dX0_addPan_45 (by decide) ?_
    refine lv_dup2_11 hx hb dX0_addPan_46 rfl rfl ?_
    obtain ⟨hc1, hf⟩ := ck_some hf
    refine va_iald hx hb hE.1 hP 1 0 rfl rfl (ix_in hc1) dX0_addPan_47 ?_
    refine lv_iload_n hx hb dX0_addPan_48 rfl (lv_at hl 1 rfl) ?_
    refine lv_imul hx hb dX0_addPan_49 ?_
    obtain ⟨hc2, hf⟩ := ck_some hf
    refine va_iast hx hb hE.1 hP hD hS 1 0 rfl rfl (ix_in hc2) dX0_addPan_50 (fun H locs hP hD hS => ?_)
    have hPD : PD D A [(a_frost, .inr (0, [.ref a_frost_cases, .int frost_upper, .int frost_lower])), (a_frost_cases, .inl (cI, 8, .inl (upd frost_cases_41 (0 : Int32).toNatClampNeg ((frost_cases_41 (0 : Int32).toNatClampNeg) * v1))))] H := ⟨hP, hD⟩
    obtain ⟨hP, hD⟩ := hPD
    have he := Option.some.inj hf
    subst he
    exact hret _ _ _ _ dX0_addPan_51 hP hD hS
  have L3 : ∀ (n3 : Nat) (v2_3 : Int32) (frost_cases_3 : Nat → Int32), f_X0_addPan_L3 v1 n3 v2_3 frost_cases_3 = some out → ∀ (H : Heap) (locs : List Loc) (ls : Array Slot), PD D A [(a_frost, .inr (0, [.ref a_frost_cases, .int frost_upper, .int frost_lower])), (a_frost_cases, .inl (cI, 8, .inl frost_cases_3))] H → va_S A s.heap H locs → lv_has ls 3 [(0, .ref a_frost), (1, .int v1), (2, .int v2_3)] → W p l e rmX0_addPan s m ([.ref a_frost, .int v1] : List Value).toArray below meth c H locs 0 0 Q (F0 m 3 ls []) := by
    intro  n3
    induction n3 with
    | zero => intro v2_3 frost_cases_3 hf; cases hf
    | succ n3 ih3 =>
      intro v2_3 frost_cases_3 hf H locs ls hPD hS hl
      obtain ⟨hP, hD⟩ := hPD
      have hf : f_X0_addPan_B3 v1 (f_X0_addPan_L3 v1 n3) v2_3 frost_cases_3 = some out := hf
      unfold f_X0_addPan_B3 at hf
      refine lv_iload_n hx hb dX0_addPan_3 rfl (lv_at hl 2 rfl) ?_
      refine lv_if_le (tgt := 41) hx hb dX0_addPan_4 (by decide) (fun hc3 => ?_) (fun hc3 => ?_)
      · have hf := if_t hf hc3
        exact J41 frost_cases_3 hf _ _ _ ⟨hP, hD⟩ hS (lv_sub hl [0, 1] rfl)
      · have hf := if_f hf hc3
        refine lv_aload_n hx hb dX0_addPan_7 rfl (lv_at hl 0 rfl) ?_
        refine va_get (D := D) (ci := 0) (v := .ref a_frost_cases) (C := RX0) (T := TX0) (N := 3) hx hb hts hiX0_addPan_0 hown hE.1 hP 0 rfl rfl 0 (by decide) fL9 (fun _ h9 => h9) rfl dX0_addPan_8 ?_
        refine lv_iload_n hx hb dX0_addPan_11 rfl (lv_at hl 2 rfl) ?_
        refine lv_aload_n hx hb dX0_addPan_12 rfl (lv_at hl 0 rfl) ?_
        refine va_get (D := D) (ci := 0) (v := .ref a_frost_cases) (C := RX0) (T := TX0) (N := 3) hx hb hts hiX0_addPan_0 hown hE.1 hP 0 rfl rfl 0 (by decide) fL9 (fun _ h9 => h9) rfl dX0_addPan_13 ?_
        refine lv_iload_n hx hb dX0_addPan_16 rfl (lv_at hl 2 rfl) ?_
        obtain ⟨hc4, hf⟩ := ck_some hf
        refine va_iald hx hb hE.1 hP 1 0 rfl rfl (ix_in hc4) dX0_addPan_17 ?_
        refine lv_iload_n hx hb dX0_addPan_18 rfl (lv_at hl 1 rfl) ?_
        refine lv_imul hx hb dX0_addPan_19 ?_
        refine lv_aload_n hx hb dX0_addPan_20 rfl (lv_at hl 0 rfl) ?_
        refine va_get (D := D) (ci := 0) (v := .ref a_frost_cases) (C := RX0) (T := TX0) (N := 3) hx hb hts hiX0_addPan_0 hown hE.1 hP 0 rfl rfl 0 (by decide) fL9 (fun _ h9 => h9) rfl dX0_addPan_21 ?_
        refine lv_iload_n hx hb dX0_addPan_24 rfl (lv_at hl 2 rfl) ?_
        refine lv_iconst (v := 1) hx hb dX0_addPan_25 (by decide) ?_
        refine lv_isub hx hb dX0_addPan_26 ?_
        obtain ⟨hc5, hf⟩ := ck_some hf
        refine va_iald hx hb hE.1 hP 1 0 rfl rfl (ix_in hc5) dX0_addPan_27 ?_
        refine lv_bipush (v := 10) hx hb dX0_addPan_28 (by decide) ?_
        refine lv_iload_n hx hb dX0_addPan_30 rfl (lv_at hl 1 rfl) ?_
        refine lv_isub hx hb dX0_addPan_31 ?_
        refine lv_imul hx hb dX0_addPan_32 ?_
        refine lv_iadd hx hb dX0_addPan_33 ?_
        obtain ⟨hc6, hf⟩ := ck_some hf
        refine va_iast hx hb hE.1 hP hD hS 1 0 rfl rfl (ix_in hc6) dX0_addPan_34 (fun H locs hP hD hS => ?_)
        have hPD : PD D A [(a_frost, .inr (0, [.ref a_frost_cases, .int frost_upper, .int frost_lower])), (a_frost_cases, .inl (cI, 8, .inl (upd frost_cases_3 v2_3.toNatClampNeg (((frost_cases_3 v2_3.toNatClampNeg) * v1) + ((frost_cases_3 (v2_3 - 1).toNatClampNeg) * (10 - v1))))))] H := ⟨hP, hD⟩
        obtain ⟨hP, hD⟩ := hPD
        refine lv_iinc (v := (v2_3 + (-1))) (lv' := [(2, .int (v2_3 + (-1))), (0, .ref a_frost), (1, .int v1)]) hx hb dX0_addPan_35 hl (k := 2) rfl (ii_m1 _) (by decide) rfl (fun ls hl => ?_)
        refine lv_goto (tgt := 3) hx hb dX0_addPan_38 (by decide) ?_
        exact ih3 (v2_3 + (-1)) (upd frost_cases_3 v2_3.toNatClampNeg (((frost_cases_3 v2_3.toNatClampNeg) * v1) + ((frost_cases_3 (v2_3 - 1).toNatClampNeg) * (10 - v1)))) hf _ _ _ ⟨hP, hD⟩ hS (lv_sub hl [1, 2, 0] rfl)
  refine lv_bipush (v := 7) hx hb dX0_addPan_0 (by decide) ?_
  refine lv_istore_n (lv' := [(2, .int 7), (0, .ref a_frost), (1, .int v1)]) hx hb dX0_addPan_2 rfl hl (by decide) rfl (fun ls hl => ?_)
  exact L3  FU 7 frost_cases hf _ _ _ ⟨hP, hD⟩ hS (lv_sub hl [1, 2, 0] rfl)
abbrev rmX0_reduce : Room := { frames := 0, cells := 0, slots := 0, locals := 0 }
theorem hiX0_reduce_0 : ∀ w ∈ wsX00, w ∈ wsX0_reduce := fun w h => (goodIn_r (big := wsX0_reduce) wsX00 [3, 4, 5] rfl (by decide +kernel) w h).1
set_option maxRecDepth 100000 in
set_option maxHeartbeats 4000000 in
theorem c_X0_reduce (l : Launch) (D : va_G) (cI cZ cR : ClassId) (a_frost : Nat) (a_frost_cases : Nat) (frost_upper : Int32) (frost_lower : Int32) (v1 : Int32) (out : Int32 × Int32) (hf : f_X0_reduce frost_upper frost_lower v1 = some out) : Cv l yX0_reduce wsX0_reduce rmX0_reduce D cI cZ cR [.ref a_frost, .int v1] [(a_frost, .inr (0, [.ref a_frost_cases, .int frost_upper, .int frost_lower]))] [(a_frost, .inr (0, [.ref a_frost_cases, .int out.1, .int out.2]))] := by
  refine ent_v (cc := cX0_reduce) (maxL := 3) (by decide) rfl (Nat.le_of_ble_eq_true rfl) ?_
  intro p e s m below meth c A Q hx hb hml hown hts hE hA hP hD hS hret ls hl
  have hown : s.vm.findClass RX0 = some m.cls := hown
  have hl : lv_has ls 3 [(0, .ref a_frost), (1, .int v1)] := hl
  have fL15 := hts (.fieldLink RX0 15 "RainShelves$Frost" "lower" "I") (List.mem_of_getElem? (i := 2) rfl)
  have fL23 := hts (.fieldLink RX0 23 "RainShelves$Frost" "upper" "I") (List.mem_of_getElem? (i := 1) rfl)
  unfold f_X0_reduce at hf
  have L2 : ∀ (n2 : Nat) (v2_2 : Int32) (frost_upper_2 : Int32) (frost_lower_2 : Int32), f_X0_reduce_L2 v1 n2 v2_2 frost_upper_2 frost_lower_2 = some out → ∀ (H : Heap) (locs : List Loc) (ls : Array Slot), PD D A [(a_frost, .inr (0, [.ref a_frost_cases, .int frost_upper_2, .int frost_lower_2]))] H → va_S A s.heap H locs → lv_has ls 3 [(0, .ref a_frost), (1, .int v1), (2, .int v2_2)] → W p l e rmX0_reduce s m ([.ref a_frost, .int v1] : List Value).toArray below meth c H locs 0 0 Q (F0 m 2 ls []) := by
    intro  n2
    induction n2 with
    | zero => intro v2_2 frost_upper_2 frost_lower_2 hf; cases hf
    | succ n2 ih2 =>
      intro v2_2 frost_upper_2 frost_lower_2 hf H locs ls hPD hS hl
      obtain ⟨hP, hD⟩ := hPD
      have hf : f_X0_reduce_B2 v1 (f_X0_reduce_L2 v1 n2) v2_2 frost_upper_2 frost_lower_2 = some out := hf
      unfold f_X0_reduce_B2 at hf
      have J45 : ∀ (frost_upper_45 : Int32) (frost_lower_45 : Int32), f_X0_reduce_J45 v2_2 (f_X0_reduce_L2 v1 n2) frost_upper_45 frost_lower_45 = some out → ∀ (H : Heap) (locs : List Loc) (ls : Array Slot), PD D A [(a_frost, .inr (0, [.ref a_frost_cases, .int frost_upper_45, .int frost_lower_45]))] H → va_S A s.heap H locs → lv_has ls 3 [(0, .ref a_frost), (1, .int v1), (2, .int v2_2)] → W p l e rmX0_reduce s m ([.ref a_frost, .int v1] : List Value).toArray below meth c H locs 0 0 Q (F0 m 45 ls []) := by
        intro frost_upper_45 frost_lower_45 hf H locs ls hPD hS hl
        obtain ⟨hP, hD⟩ := hPD
        unfold f_X0_reduce_J45 at hf
        refine lv_aload_n hx hb dX0_reduce_45 rfl (lv_at hl 0 rfl) ?_
        refine va_get (D := D) (ci := 0) (v := .int frost_upper_45) (C := RX0) (T := TX0) (N := 3) hx hb hts hiX0_reduce_0 hown hE.1 hP 0 rfl rfl 1 (by decide) fL23 (fun _ h9 => h9) rfl dX0_reduce_46 ?_
        refine lv_iconst (v := 5) hx hb dX0_reduce_49 (by decide) ?_
        obtain ⟨hc1, hf⟩ := ck_some hf
        refine lv_irem hx hb dX0_reduce_50 (nz_ne hc1) ?_
        refine lv_if_ne (tgt := 83) hx hb dX0_reduce_51 (by decide) (fun hc2 => ?_) (fun hc2 => ?_)
        · have hf := if_f hf hc2
          refine lv_iinc (v := (v2_2 + 1)) (lv' := [(2, .int (v2_2 + 1)), (0, .ref a_frost), (1, .int v1)]) hx hb dX0_reduce_83 hl (k := 2) rfl (ii_p1 _) (by decide) rfl (fun ls hl => ?_)
          refine lv_goto (tgt := 2) hx hb dX0_reduce_86 (by decide) ?_
          exact ih2 (v2_2 + 1) frost_upper_45 frost_lower_45 hf _ _ _ ⟨hP, hD⟩ hS (lv_sub hl [1, 2, 0] rfl)
        · have hf := if_t hf hc2
          refine lv_aload_n hx hb dX0_reduce_54 rfl (lv_at hl 0 rfl) ?_
          refine va_get (D := D) (ci := 0) (v := .int frost_lower_45) (C := RX0) (T := TX0) (N := 3) hx hb hts hiX0_reduce_0 hown hE.1 hP 0 rfl rfl 2 (by decide) fL15 (fun _ h9 => h9) rfl dX0_reduce_55 ?_
          refine lv_iconst (v := 5) hx hb dX0_reduce_58 (by decide) ?_
          obtain ⟨hc3, hf⟩ := ck_some hf
          refine lv_irem hx hb dX0_reduce_59 (nz_ne hc3) ?_
          refine lv_if_ne (tgt := 83) hx hb dX0_reduce_60 (by decide) (fun hc4 => ?_) (fun hc4 => ?_)
          · have hf := if_f hf hc4
            refine lv_iinc (v := (v2_2 + 1)) (lv' := [(2, .int (v2_2 + 1)), (0, .ref a_frost), (1, .int v1)]) hx hb dX0_reduce_83 hl (k := 2) rfl (ii_p1 _) (by decide) rfl (fun ls hl => ?_)
            refine lv_goto (tgt := 2) hx hb dX0_reduce_86 (by decide) ?_
            exact ih2 (v2_2 + 1) frost_upper_45 frost_lower_45 hf _ _ _ ⟨hP, hD⟩ hS (lv_sub hl [1, 2, 0] rfl)
          · have hf := if_t hf hc4
            refine lv_aload_n hx hb dX0_reduce_63 rfl (lv_at hl 0 rfl) ?_
            refine lv_dup hx hb dX0_reduce_64 rfl ?_
            refine va_get (D := D) (ci := 0) (v := .int frost_upper_45) (C := RX0) (T := TX0) (N := 3) hx hb hts hiX0_reduce_0 hown hE.1 hP 0 rfl rfl 1 (by decide) fL23 (fun _ h9 => h9) rfl dX0_reduce_65 ?_
            refine lv_iconst (v := 5) hx hb dX0_reduce_68 (by decide) ?_
            obtain ⟨hc5, hf⟩ := ck_some hf
            refine lv_idiv hx hb dX0_reduce_69 (nz_ne hc5) ?_
            refine va_put (D := D) (ci := 0) (v := .int (frost_upper_45 / 5)) (ty := .int) (C := RX0) (T := TX0) (N := 3) hx hb hts hiX0_reduce_0 tyX0 tyX0_ok nmX0 hown hE.1 hP hD hS 0 rfl rfl 1 (by decide) fL23 (fun _ h9 => h9) rfl (tyX0_ok 1 (by decide)) rfl rfl (Nat.le_of_ble_eq_true rfl) dX0_reduce_70 (fun H locs hP hD hS => ?_)
            have hPD : PD D A [(a_frost, .inr (0, [.ref a_frost_cases, .int (frost_upper_45 / 5), .int frost_lower_45]))] H := ⟨hP, hD⟩
            obtain ⟨hP, hD⟩ := hPD
            refine lv_aload_n hx hb dX0_reduce_73 rfl (lv_at hl 0 rfl) ?_
            refine lv_dup hx hb dX0_reduce_74 rfl ?_
            refine va_get (D := D) (ci := 0) (v := .int frost_lower_45) (C := RX0) (T := TX0) (N := 3) hx hb hts hiX0_reduce_0 hown hE.1 hP 0 rfl rfl 2 (by decide) fL15 (fun _ h9 => h9) rfl dX0_reduce_75 ?_
            refine lv_iconst (v := 5) hx hb dX0_reduce_78 (by decide) ?_
            obtain ⟨hc6, hf⟩ := ck_some hf
            refine lv_idiv hx hb dX0_reduce_79 (nz_ne hc6) ?_
            refine va_put (D := D) (ci := 0) (v := .int (frost_lower_45 / 5)) (ty := .int) (C := RX0) (T := TX0) (N := 3) hx hb hts hiX0_reduce_0 tyX0 tyX0_ok nmX0 hown hE.1 hP hD hS 0 rfl rfl 2 (by decide) fL15 (fun _ h9 => h9) rfl (tyX0_ok 2 (by decide)) rfl rfl (Nat.le_of_ble_eq_true rfl) dX0_reduce_80 (fun H locs hP hD hS => ?_)
            have hPD : PD D A [(a_frost, .inr (0, [.ref a_frost_cases, .int (frost_upper_45 / 5), .int (frost_lower_45 / 5)]))] H := ⟨hP, hD⟩
            obtain ⟨hP, hD⟩ := hPD
            refine lv_iinc (v := (v2_2 + 1)) (lv' := [(2, .int (v2_2 + 1)), (0, .ref a_frost), (1, .int v1)]) hx hb dX0_reduce_83 hl (k := 2) rfl (ii_p1 _) (by decide) rfl (fun ls hl => ?_)
            refine lv_goto (tgt := 2) hx hb dX0_reduce_86 (by decide) ?_
            exact ih2 (v2_2 + 1) (frost_upper_45 / 5) (frost_lower_45 / 5) hf _ _ _ ⟨hP, hD⟩ hS (lv_sub hl [1, 2, 0] rfl)
      refine lv_iload_n hx hb dX0_reduce_2 rfl (lv_at hl 2 rfl) ?_
      refine lv_iload_n hx hb dX0_reduce_3 rfl (lv_at hl 1 rfl) ?_
      refine lv_icmp_ge (tgt := 89) hx hb dX0_reduce_4 (by decide) (fun hc7 => ?_) (fun hc7 => ?_)
      · have hf := if_t hf hc7
        have he := Option.some.inj hf
        subst he
        exact hret _ _ _ _ dX0_reduce_89 hP hD hS
      · have hf := if_f hf hc7
        refine lv_aload_n hx hb dX0_reduce_7 rfl (lv_at hl 0 rfl) ?_
        refine va_get (D := D) (ci := 0) (v := .int frost_upper_2) (C := RX0) (T := TX0) (N := 3) hx hb hts hiX0_reduce_0 hown hE.1 hP 0 rfl rfl 1 (by decide) fL23 (fun _ h9 => h9) rfl dX0_reduce_8 ?_
        refine lv_iconst (v := 2) hx hb dX0_reduce_11 (by decide) ?_
        obtain ⟨hc8, hf⟩ := ck_some hf
        refine lv_irem hx hb dX0_reduce_12 (nz_ne hc8) ?_
        refine lv_if_ne (tgt := 45) hx hb dX0_reduce_13 (by decide) (fun hc9 => ?_) (fun hc9 => ?_)
        · have hf := if_f hf hc9
          exact J45 frost_upper_2 frost_lower_2 hf _ _ _ ⟨hP, hD⟩ hS hl
        · have hf := if_t hf hc9
          refine lv_aload_n hx hb dX0_reduce_16 rfl (lv_at hl 0 rfl) ?_
          refine va_get (D := D) (ci := 0) (v := .int frost_lower_2) (C := RX0) (T := TX0) (N := 3) hx hb hts hiX0_reduce_0 hown hE.1 hP 0 rfl rfl 2 (by decide) fL15 (fun _ h9 => h9) rfl dX0_reduce_17 ?_
          refine lv_iconst (v := 2) hx hb dX0_reduce_20 (by decide) ?_
          obtain ⟨hc10, hf⟩ := ck_some hf
          refine lv_irem hx hb dX0_reduce_21 (nz_ne hc10) ?_
          refine lv_if_ne (tgt := 45) hx hb dX0_reduce_22 (by decide) (fun hc11 => ?_) (fun hc11 => ?_)
          · have hf := if_f hf hc11
            exact J45 frost_upper_2 frost_lower_2 hf _ _ _ ⟨hP, hD⟩ hS hl
          · have hf := if_t hf hc11
            refine lv_aload_n hx hb dX0_reduce_25 rfl (lv_at hl 0 rfl) ?_
            refine lv_dup hx hb dX0_reduce_26 rfl ?_
            refine va_get (D := D) (ci := 0) (v := .int frost_upper_2) (C := RX0) (T := TX0) (N := 3) hx hb hts hiX0_reduce_0 hown hE.1 hP 0 rfl rfl 1 (by decide) fL23 (fun _ h9 => h9) rfl dX0_reduce_27 ?_
            refine lv_iconst (v := 2) hx hb dX0_reduce_30 (by decide) ?_
            obtain ⟨hc12, hf⟩ := ck_some hf
            refine lv_idiv hx hb dX0_reduce_31 (nz_ne hc12) ?_
            refine va_put (D := D) (ci := 0) (v := .int (frost_upper_2 / 2)) (ty := .int) (C := RX0) (T := TX0) (N := 3) hx hb hts hiX0_reduce_0 tyX0 tyX0_ok nmX0 hown hE.1 hP hD hS 0 rfl rfl 1 (by decide) fL23 (fun _ h9 => h9) rfl (tyX0_ok 1 (by decide)) rfl rfl (Nat.le_of_ble_eq_true rfl) dX0_reduce_32 (fun H locs hP hD hS => ?_)
            have hPD : PD D A [(a_frost, .inr (0, [.ref a_frost_cases, .int (frost_upper_2 / 2), .int frost_lower_2]))] H := ⟨hP, hD⟩
            obtain ⟨hP, hD⟩ := hPD
            refine lv_aload_n hx hb dX0_reduce_35 rfl (lv_at hl 0 rfl) ?_
            refine lv_dup hx hb dX0_reduce_36 rfl ?_
            refine va_get (D := D) (ci := 0) (v := .int frost_lower_2) (C := RX0) (T := TX0) (N := 3) hx hb hts hiX0_reduce_0 hown hE.1 hP 0 rfl rfl 2 (by decide) fL15 (fun _ h9 => h9) rfl dX0_reduce_37 ?_
            refine lv_iconst (v := 2) hx hb dX0_reduce_40 (by decide) ?_
            obtain ⟨hc13, hf⟩ := ck_some hf
            refine lv_idiv hx hb dX0_reduce_41 (nz_ne hc13) ?_
            refine va_put (D := D) (ci := 0) (v := .int (frost_lower_2 / 2)) (ty := .int) (C := RX0) (T := TX0) (N := 3) hx hb hts hiX0_reduce_0 tyX0 tyX0_ok nmX0 hown hE.1 hP hD hS 0 rfl rfl 2 (by decide) fL15 (fun _ h9 => h9) rfl (tyX0_ok 2 (by decide)) rfl rfl (Nat.le_of_ble_eq_true rfl) dX0_reduce_42 (fun H locs hP hD hS => ?_)
            have hPD : PD D A [(a_frost, .inr (0, [.ref a_frost_cases, .int (frost_upper_2 / 2), .int (frost_lower_2 / 2)]))] H := ⟨hP, hD⟩
            obtain ⟨hP, hD⟩ := hPD
            exact J45 (frost_upper_2 / 2) (frost_lower_2 / 2) hf _ _ _ ⟨hP, hD⟩ hS hl
  refine lv_iconst (v := 0) hx hb dX0_reduce_0 (by decide) ?_
  refine lv_istore_n (lv' := [(2, .int 0), (0, .ref a_frost), (1, .int v1)]) hx hb dX0_reduce_1 rfl hl (by decide) rfl (fun ls hl => ?_)
  exact L2  FU 0 frost_upper frost_lower hf _ _ _ ⟨hP, hD⟩ hS (lv_sub hl [1, 2, 0] rfl)
abbrev rmX0_reckon : Room := { frames := 1, cells := 0, slots := 0, locals := 22 }
theorem hiX0_reckon_0 : ∀ w ∈ wsX00, w ∈ wsX0_reckon := fun w h => (goodIn_r (big := wsX0_reckon) wsX00 [17, 18, 19] rfl (by decide +kernel) w h).1
theorem cw_X0_reckon_X0_reduce_32 {s : State} {args : Array Value} (hts : ∀ x ∈ wsX0_reckon, x.before args s = true) : CallW rmX0_reckon s args RX0 RX0 32 yX0_reduce cX0_reduce 3 none wsX0_reduce rmX0_reduce 0 0 1 := cwV 1 hts gX0_reckon_X0_reduce rfl rfl rfl (by decide +kernel) ⟨Nat.le_of_ble_eq_true rfl, Nat.le_of_ble_eq_true rfl⟩
theorem cw_X0_reckon_X0_addPan_19 {s : State} {args : Array Value} (hts : ∀ x ∈ wsX0_reckon, x.before args s = true) : CallW rmX0_reckon s args RX0 RX0 19 yX0_addPan cX0_addPan 3 none wsX0_addPan rmX0_addPan 0 0 1 := cwV 1 hts gX0_reckon_X0_addPan rfl rfl rfl (by decide +kernel) ⟨Nat.le_of_ble_eq_true rfl, Nat.le_of_ble_eq_true rfl⟩
set_option maxRecDepth 100000 in
set_option maxHeartbeats 4000000 in
theorem c_X0_reckon (l : Launch) (D : va_G) (cI cZ cR : ClassId) (a_frost : Nat) (a_frost_cases : Nat) (frost_upper : Int32) (frost_lower : Int32) (frost_cases : Nat → Int32) (v1 : Int32) (v2 : Int32) (v3 : Int32) (out : Int32 × Int32 × (Nat → Int32)) (hf : f_X0_reckon frost_cases v1 v2 v3 = some out) : Cv l yX0_reckon wsX0_reckon rmX0_reckon D cI cZ cR [.ref a_frost, .int v1, .int v2, .int v3] [(a_frost, .inr (0, [.ref a_frost_cases, .int frost_upper, .int frost_lower])), (a_frost_cases, .inl (cI, 8, .inl frost_cases))] [(a_frost, .inr (0, [.ref a_frost_cases, .int out.1, .int out.2.1])), (a_frost_cases, .inl (cI, 8, .inl out.2.2))] := by
  refine ent_v (cc := cX0_reckon) (maxL := 5) (by decide) rfl (Nat.le_of_ble_eq_true rfl) ?_
  intro p e s m below meth c A Q hx hb hml hown hts hE hA hP hD hS hret ls hl
  have hown : s.vm.findClass RX0 = some m.cls := hown
  have hl : lv_has ls 5 [(0, .ref a_frost), (1, .int v1), (2, .int v2), (3, .int v3)] := hl
  have fL9 := hts (.fieldLink RX0 9 "RainShelves$Frost" "cases" "[I") (List.mem_of_getElem? (i := 2) rfl)
  have fL15 := hts (.fieldLink RX0 15 "RainShelves$Frost" "lower" "I") (List.mem_of_getElem? (i := 1) rfl)
  have fL23 := hts (.fieldLink RX0 23 "RainShelves$Frost" "upper" "I") (List.mem_of_getElem? (i := 3) rfl)
  have mBmax := hts (.static Lib.Math.max.name) (List.mem_of_getElem? (i := 5) rfl)
  have mDmax := hts (.code Lib.Math.max.name Lib.Math.max.code 2 (some .int)) (List.mem_of_getElem? (i := 7) rfl)
  have mC := hts (.initialized "java/lang/Math") (List.mem_of_getElem? (i := 6) rfl)
  have mA26 := hts (.methodLink RX0 26 Lib.Math.max.name) (List.mem_of_getElem? (i := 4) rfl)
  unfold f_X0_reckon at hf
  have L81 : ∀ (frost_lower_81 : Int32) (frost_cases_81 : Nat → Int32) (n81 : Nat) (v4_81 : Int32) (frost_upper_81 : Int32), f_X0_reckon_L81 v3 frost_lower_81 frost_cases_81 n81 v4_81 frost_upper_81 = some out → ∀ (H : Heap) (locs : List Loc) (ls : Array Slot), PD D A [(a_frost, .inr (0, [.ref a_frost_cases, .int frost_upper_81, .int frost_lower_81])), (a_frost_cases, .inl (cI, 8, .inl frost_cases_81))] H → va_S A s.heap H locs → lv_has ls 5 [(0, .ref a_frost), (3, .int v3), (4, .int v4_81)] → W p l e rmX0_reckon s m ([.ref a_frost, .int v1, .int v2, .int v3] : List Value).toArray below meth c H locs 0 0 Q (F0 m 81 ls []) := by
    intro frost_lower_81 frost_cases_81 n81
    induction n81 with
    | zero => intro v4_81 frost_upper_81 hf; cases hf
    | succ n81 ih81 =>
      intro v4_81 frost_upper_81 hf H locs ls hPD hS hl
      obtain ⟨hP, hD⟩ := hPD
      have hf : f_X0_reckon_B81 v3 frost_lower_81 frost_cases_81 (f_X0_reckon_L81 v3 frost_lower_81 frost_cases_81 n81) v4_81 frost_upper_81 = some out := hf
      unfold f_X0_reckon_B81 at hf
      refine lv_iload hx hb dX0_reckon_81 (lv_at hl 2 rfl) ?_
      refine lv_bipush (v := 7) hx hb dX0_reckon_83 (by decide) ?_
      refine lv_icmp_gt (tgt := 110) hx hb dX0_reckon_85 (by decide) (fun hc1 => ?_) (fun hc1 => ?_)
      · have hf := if_t hf hc1
        refine lv_aload_n hx hb dX0_reckon_110 rfl (lv_at hl 0 rfl) ?_
        refine lv_iload_n hx hb dX0_reckon_111 rfl (lv_at hl 1 rfl) ?_
        obtain ⟨u1, hu1, hf⟩ := bd_some hf
        refine cl_vV (As := [.int v3]) (rest := []) ⟨hx, hb, hml, hown, hts⟩ (c_X0_reduce l D cI cZ cR a_frost a_frost_cases frost_upper_81 frost_lower_81 v3 u1 hu1) (cw_X0_reckon_X0_reduce_32 hts) hE hP hD hS hA [0] rfl rfl [a_frost] rfl rfl 0 0 rfl rfl rfl hl.1 rfl (Nat.le_of_ble_eq_true rfl) dX0_reckon_112 ⟨Nat.zero_le _, Nat.zero_le _⟩ (fun H locs hP hD hS => ?_)
        have hPD : PD D A [(a_frost, .inr (0, [.ref a_frost_cases, .int u1.1, .int u1.2])), (a_frost_cases, .inl (cI, 8, .inl frost_cases_81))] H := ⟨hP, hD⟩
        obtain ⟨hP, hD⟩ := hPD
        have he := Option.some.inj hf
        subst he
        exact hret _ _ _ _ dX0_reckon_115 hP hD hS
      · have hf := if_f hf hc1
        refine lv_aload_n hx hb dX0_reckon_88 rfl (lv_at hl 0 rfl) ?_
        refine lv_dup hx hb dX0_reckon_89 rfl ?_
        refine va_get (D := D) (ci := 0) (v := .int frost_upper_81) (C := RX0) (T := TX0) (N := 3) hx hb hts hiX0_reckon_0 hown hE.1 hP 0 rfl rfl 1 (by decide) fL23 (fun _ h9 => h9) rfl dX0_reckon_90 ?_
        refine lv_aload_n hx hb dX0_reckon_93 rfl (lv_at hl 0 rfl) ?_
        refine va_get (D := D) (ci := 0) (v := .ref a_frost_cases) (C := RX0) (T := TX0) (N := 3) hx hb hts hiX0_reckon_0 hown hE.1 hP 0 rfl rfl 0 (by decide) fL9 (fun _ h9 => h9) rfl dX0_reckon_94 ?_
        refine lv_iload hx hb dX0_reckon_97 (lv_at hl 2 rfl) ?_
        obtain ⟨hc2, hf⟩ := ck_some hf
        refine va_iald hx hb hE.1 hP 1 0 rfl rfl (ix_in hc2) dX0_reckon_99 ?_
        refine lv_iadd hx hb dX0_reckon_100 ?_
        refine va_put (D := D) (ci := 0) (v := .int (frost_upper_81 + (frost_cases_81 v4_81.toNatClampNeg))) (ty := .int) (C := RX0) (T := TX0) (N := 3) hx hb hts hiX0_reckon_0 tyX0 tyX0_ok nmX0 hown hE.1 hP hD hS 0 rfl rfl 1 (by decide) fL23 (fun _ h9 => h9) rfl (tyX0_ok 1 (by decide)) rfl rfl (Nat.le_of_ble_eq_true rfl) dX0_reckon_101 (fun H locs hP hD hS => ?_)
        have hPD : PD D A [(a_frost, .inr (0, [.ref a_frost_cases, .int (frost_upper_81 + (frost_cases_81 v4_81.toNatClampNeg)), .int frost_lower_81])), (a_frost_cases, .inl (cI, 8, .inl frost_cases_81))] H := ⟨hP, hD⟩
        obtain ⟨hP, hD⟩ := hPD
        refine lv_iinc (v := (v4_81 + 1)) (lv' := [(4, .int (v4_81 + 1)), (0, .ref a_frost), (3, .int v3)]) hx hb dX0_reckon_104 hl (k := 2) rfl (ii_p1 _) (by decide) rfl (fun ls hl => ?_)
        refine lv_goto (tgt := 81) hx hb dX0_reckon_107 (by decide) ?_
        exact ih81 (v4_81 + 1) (frost_upper_81 + (frost_cases_81 v4_81.toNatClampNeg)) hf _ _ _ ⟨hP, hD⟩ hS (lv_sub hl [1, 2, 0] rfl)
  have J69 : ∀ (frost_lower_69 : Int32) (frost_cases_69 : Nat → Int32), f_X0_reckon_J69 v2 v3 frost_lower_69 frost_cases_69 = some out → ∀ (H : Heap) (locs : List Loc) (ls : Array Slot), PD D A [(a_frost, .inr (0, [.ref a_frost_cases, .int frost_upper, .int frost_lower_69])), (a_frost_cases, .inl (cI, 8, .inl frost_cases_69))] H → va_S A s.heap H locs → lv_has ls 5 [(0, .ref a_frost), (2, .int v2), (3, .int v3)] → W p l e rmX0_reckon s m ([.ref a_frost, .int v1, .int v2, .int v3] : List Value).toArray below meth c H locs 0 0 Q (F0 m 69 ls []) := by
    intro frost_lower_69 frost_cases_69 hf H locs ls hPD hS hl
    obtain ⟨hP, hD⟩ := hPD
    unfold f_X0_reckon_J69 at hf
    refine lv_aload_n hx hb dX0_reckon_69 rfl (lv_at hl 0 rfl) ?_
    refine lv_iconst (v := 0) hx hb dX0_reckon_70 (by decide) ?_
    refine va_put (D := D) (ci := 0) (v := .int 0) (ty := .int) (C := RX0) (T := TX0) (N := 3) hx hb hts hiX0_reckon_0 tyX0 tyX0_ok nmX0 hown hE.1 hP hD hS 0 rfl rfl 1 (by decide) fL23 (fun _ h9 => h9) rfl (tyX0_ok 1 (by decide)) rfl rfl (Nat.le_of_ble_eq_true rfl) dX0_reckon_71 (fun H locs hP hD hS => ?_)
    have hPD : PD D A [(a_frost, .inr (0, [.ref a_frost_cases, .int 0, .int frost_lower_69])), (a_frost_cases, .inl (cI, 8, .inl frost_cases_69))] H := ⟨hP, hD⟩
    obtain ⟨hP, hD⟩ := hPD
    refine lv_iconst (v := 0) hx hb dX0_reckon_74 (by decide) ?_
    refine lv_iload_n hx hb dX0_reckon_75 rfl (lv_at hl 1 rfl) ?_
    refine va_mmax hx hb (hml.trans hl.1.symm) hown mA26 mBmax mC mDmax (Nat.le_of_ble_eq_true rfl) (Nat.le_of_ble_eq_true rfl) (Nat.zero_le _) (Nat.zero_le _) dX0_reckon_76 ?_
    refine lv_istore (lv' := [(4, .int (if (0 : Int32) < v2 then v2 else (0 : Int32))), (0, .ref a_frost), (2, .int v2), (3, .int v3)]) hx hb dX0_reckon_79 hl (by decide) rfl (fun ls hl => ?_)
    exact L81 frost_lower_69 frost_cases_69 FU (if (0 : Int32) < v2 then v2 else (0 : Int32)) 0 hf _ _ _ ⟨hP, hD⟩ hS (lv_sub hl [1, 3, 0] rfl)
  have L41 : ∀ (n41 : Nat) (v4_41 : Int32) (frost_lower_41 : Int32) (frost_cases_41 : Nat → Int32), f_X0_reckon_L41 v1 v2 v3 n41 v4_41 frost_lower_41 frost_cases_41 = some out → ∀ (H : Heap) (locs : List Loc) (ls : Array Slot), PD D A [(a_frost, .inr (0, [.ref a_frost_cases, .int frost_upper, .int frost_lower_41])), (a_frost_cases, .inl (cI, 8, .inl frost_cases_41))] H → va_S A s.heap H locs → lv_has ls 5 [(0, .ref a_frost), (1, .int v1), (2, .int v2), (3, .int v3), (4, .int v4_41)] → W p l e rmX0_reckon s m ([.ref a_frost, .int v1, .int v2, .int v3] : List Value).toArray below meth c H locs 0 0 Q (F0 m 41 ls []) := by
    intro  n41
    induction n41 with
    | zero => intro v4_41 frost_lower_41 frost_cases_41 hf; cases hf
    | succ n41 ih41 =>
      intro v4_41 frost_lower_41 frost_cases_41 hf H locs ls hPD hS hl
      obtain ⟨hP, hD⟩ := hPD
      have hf : f_X0_reckon_B41 v1 v2 v3 (f_X0_reckon_L41 v1 v2 v3 n41) v4_41 frost_lower_41 frost_cases_41 = some out := hf
      unfold f_X0_reckon_B41 at hf
      refine lv_iload hx hb dX0_reckon_41 (lv_at hl 4 rfl) ?_
      refine lv_iload_n hx hb dX0_reckon_43 rfl (lv_at hl 3 rfl) ?_
      refine lv_icmp_ge (tgt := 69) hx hb dX0_reckon_44 (by decide) (fun hc3 => ?_) (fun hc3 => ?_)
      · have hf := if_t hf hc3
        exact J69 frost_lower_41 frost_cases_41 hf _ _ _ ⟨hP, hD⟩ hS (lv_sub hl [0, 2, 3] rfl)
      · have hf := if_f hf hc3
        refine lv_aload_n hx hb dX0_reckon_47 rfl (lv_at hl 0 rfl) ?_
        refine lv_dup hx hb dX0_reckon_48 rfl ?_
        refine va_get (D := D) (ci := 0) (v := .int frost_lower_41) (C := RX0) (T := TX0) (N := 3) hx hb hts hiX0_reckon_0 hown hE.1 hP 0 rfl rfl 2 (by decide) fL15 (fun _ h9 => h9) rfl dX0_reckon_49 ?_
        refine lv_bipush (v := 10) hx hb dX0_reckon_52 (by decide) ?_
        refine lv_imul hx hb dX0_reckon_54 ?_
        refine va_put (D := D) (ci := 0) (v := .int (frost_lower_41 * 10)) (ty := .int) (C := RX0) (T := TX0) (N := 3) hx hb hts hiX0_reckon_0 tyX0 tyX0_ok nmX0 hown hE.1 hP hD hS 0 rfl rfl 2 (by decide) fL15 (fun _ h9 => h9) rfl (tyX0_ok 2 (by decide)) rfl rfl (Nat.le_of_ble_eq_true rfl) dX0_reckon_55 (fun H locs hP hD hS => ?_)
        have hPD : PD D A [(a_frost, .inr (0, [.ref a_frost_cases, .int frost_upper, .int (frost_lower_41 * 10)])), (a_frost_cases, .inl (cI, 8, .inl frost_cases_41))] H := ⟨hP, hD⟩
        obtain ⟨hP, hD⟩ := hPD
        refine lv_aload_n hx hb dX0_reckon_58 rfl (lv_at hl 0 rfl) ?_
        refine lv_iload_n hx hb dX0_reckon_59 rfl (lv_at hl 1 rfl) ?_
        obtain ⟨u2, hu2, hf⟩ := bd_some hf
        refine cl_vV (As := [.int v1]) (rest := []) ⟨hx, hb, hml, hown, hts⟩ (c_X0_addPan l D cI cZ cR a_frost a_frost_cases frost_upper (frost_lower_41 * 10) frost_cases_41 v1 u2 hu2) (cw_X0_reckon_X0_addPan_19 hts) hE hP hD hS hA [0, 1] rfl rfl [a_frost, a_frost_cases] rfl rfl 0 0 rfl rfl rfl hl.1 rfl (Nat.le_of_ble_eq_true rfl) dX0_reckon_60 ⟨Nat.zero_le _, Nat.zero_le _⟩ (fun H locs hP hD hS => ?_)
        have hPD : PD D A [(a_frost, .inr (0, [.ref a_frost_cases, .int frost_upper, .int (frost_lower_41 * 10)])), (a_frost_cases, .inl (cI, 8, .inl u2))] H := ⟨hP, hD⟩
        obtain ⟨hP, hD⟩ := hPD
        refine lv_iinc (v := (v4_41 + 1)) (lv' := [(4, .int (v4_41 + 1)), (0, .ref a_frost), (1, .int v1), (2, .int v2), (3, .int v3)]) hx hb dX0_reckon_63 hl (k := 4) rfl (ii_p1 _) (by decide) rfl (fun ls hl => ?_)
        refine lv_goto (tgt := 41) hx hb dX0_reckon_66 (by decide) ?_
        exact ih41 (v4_41 + 1) (frost_lower_41 * 10) u2 hf _ _ _ ⟨hP, hD⟩ hS (lv_sub hl [1, 2, 3, 4, 0] rfl)
  have L8 : ∀ (frost_lower_8 : Int32) (n8 : Nat) (v4_8 : Int32) (frost_cases_8 : Nat → Int32), f_X0_reckon_L8 v1 v2 v3 frost_lower_8 n8 v4_8 frost_cases_8 = some out → ∀ (H : Heap) (locs : List Loc) (ls : Array Slot), PD D A [(a_frost, .inr (0, [.ref a_frost_cases, .int frost_upper, .int frost_lower_8])), (a_frost_cases, .inl (cI, 8, .inl frost_cases_8))] H → va_S A s.heap H locs → lv_has ls 5 [(0, .ref a_frost), (1, .int v1), (2, .int v2), (3, .int v3), (4, .int v4_8)] → W p l e rmX0_reckon s m ([.ref a_frost, .int v1, .int v2, .int v3] : List Value).toArray below meth c H locs 0 0 Q (F0 m 8 ls []) := by
    intro frost_lower_8 n8
    induction n8 with
    | zero => intro v4_8 frost_cases_8 hf; cases hf
    | succ n8 ih8 =>
      intro v4_8 frost_cases_8 hf H locs ls hPD hS hl
      obtain ⟨hP, hD⟩ := hPD
      have hf : f_X0_reckon_B8 v1 v2 v3 frost_lower_8 (f_X0_reckon_L8 v1 v2 v3 frost_lower_8 n8) v4_8 frost_cases_8 = some out := hf
      unfold f_X0_reckon_B8 at hf
      refine lv_iload hx hb dX0_reckon_8 (lv_at hl 4 rfl) ?_
      refine lv_bipush (v := 7) hx hb dX0_reckon_10 (by decide) ?_
      refine lv_icmp_gt (tgt := 38) hx hb dX0_reckon_12 (by decide) (fun hc4 => ?_) (fun hc4 => ?_)
      · have hf := if_t hf hc4
        refine lv_iconst (v := 0) hx hb dX0_reckon_38 (by decide) ?_
        refine lv_istore (lv' := [(4, .int 0), (0, .ref a_frost), (1, .int v1), (2, .int v2), (3, .int v3)]) hx hb dX0_reckon_39 hl (by decide) rfl (fun ls hl => ?_)
        exact L41  FU 0 frost_lower_8 frost_cases_8 hf _ _ _ ⟨hP, hD⟩ hS (lv_sub hl [1, 2, 3, 4, 0] rfl)
      · have hf := if_f hf hc4
        refine lv_aload_n hx hb dX0_reckon_15 rfl (lv_at hl 0 rfl) ?_
        refine va_get (D := D) (ci := 0) (v := .ref a_frost_cases) (C := RX0) (T := TX0) (N := 3) hx hb hts hiX0_reckon_0 hown hE.1 hP 0 rfl rfl 0 (by decide) fL9 (fun _ h9 => h9) rfl dX0_reckon_16 ?_
        refine lv_iload hx hb dX0_reckon_19 (lv_at hl 4 rfl) ?_
        refine lv_iload hx hb dX0_reckon_21 (lv_at hl 4 rfl) ?_
        refine lv_if_ne (tgt := 30) hx hb dX0_reckon_23 (by decide) (fun hc5 => ?_) (fun hc5 => ?_)
        · have hf := if_f hf hc5
          refine lv_iconst (v := 0) hx hb dX0_reckon_30 (by decide) ?_
          obtain ⟨hc6, hf⟩ := ck_some hf
          refine va_iast hx hb hE.1 hP hD hS 1 0 rfl rfl (ix_in hc6) dX0_reckon_31 (fun H locs hP hD hS => ?_)
          have hPD : PD D A [(a_frost, .inr (0, [.ref a_frost_cases, .int frost_upper, .int frost_lower_8])), (a_frost_cases, .inl (cI, 8, .inl (upd frost_cases_8 v4_8.toNatClampNeg 0)))] H := ⟨hP, hD⟩
          obtain ⟨hP, hD⟩ := hPD
          refine lv_iinc (v := (v4_8 + 1)) (lv' := [(4, .int (v4_8 + 1)), (0, .ref a_frost), (1, .int v1), (2, .int v2), (3, .int v3)]) hx hb dX0_reckon_32 hl (k := 4) rfl (ii_p1 _) (by decide) rfl (fun ls hl => ?_)
          refine lv_goto (tgt := 8) hx hb dX0_reckon_35 (by decide) ?_
          exact ih8 (v4_8 + 1) (upd frost_cases_8 v4_8.toNatClampNeg 0) hf _ _ _ ⟨hP, hD⟩ hS (lv_sub hl [1, 2, 3, 4, 0] rfl)
        · have hf := if_t hf hc5
          refine lv_iconst (v := 1) hx hb dX0_reckon_26 (by decide) ?_
          refine lv_goto (tgt := 31) hx hb dX0_reckon_27 (by decide) ?_
          obtain ⟨hc7, hf⟩ := ck_some hf
          refine va_iast hx hb hE.1 hP hD hS 1 0 rfl rfl (ix_in hc7) dX0_reckon_31 (fun H locs hP hD hS => ?_)
          have hPD : PD D A [(a_frost, .inr (0, [.ref a_frost_cases, .int frost_upper, .int frost_lower_8])), (a_frost_cases, .inl (cI, 8, .inl (upd frost_cases_8 v4_8.toNatClampNeg 1)))] H := ⟨hP, hD⟩
          obtain ⟨hP, hD⟩ := hPD
          refine lv_iinc (v := (v4_8 + 1)) (lv' := [(4, .int (v4_8 + 1)), (0, .ref a_frost), (1, .int v1), (2, .int v2), (3, .int v3)]) hx hb dX0_reckon_32 hl (k := 4) rfl (ii_p1 _) (by decide) rfl (fun ls hl => ?_)
          refine lv_goto (tgt := 8) hx hb dX0_reckon_35 (by decide) ?_
          exact ih8 (v4_8 + 1) (upd frost_cases_8 v4_8.toNatClampNeg 1) hf _ _ _ ⟨hP, hD⟩ hS (lv_sub hl [1, 2, 3, 4, 0] rfl)
  refine lv_aload_n hx hb dX0_reckon_0 rfl (lv_at hl 0 rfl) ?_
  refine lv_iconst (v := 1) hx hb dX0_reckon_1 (by decide) ?_
  refine va_put (D := D) (ci := 0) (v := .int 1) (ty := .int) (C := RX0) (T := TX0) (N := 3) hx hb hts hiX0_reckon_0 tyX0 tyX0_ok nmX0 hown hE.1 hP hD hS 0 rfl rfl 2 (by decide) fL15 (fun _ h9 => h9) rfl (tyX0_ok 2 (by decide)) rfl rfl (Nat.le_of_ble_eq_true rfl) dX0_reckon_2 (fun H locs hP hD hS => ?_)
  have hPD : PD D A [(a_frost, .inr (0, [.ref a_frost_cases, .int frost_upper, .int 1])), (a_frost_cases, .inl (cI, 8, .inl frost_cases))] H := ⟨hP, hD⟩
  obtain ⟨hP, hD⟩ := hPD
  refine lv_iconst (v := 0) hx hb dX0_reckon_5 (by decide) ?_
  refine lv_istore (lv' := [(4, .int 0), (0, .ref a_frost), (1, .int v1), (2, .int v2), (3, .int v3)]) hx hb dX0_reckon_6 hl (by decide) rfl (fun ls hl => ?_)
  exact L8 1 FU 0 frost_cases hf _ _ _ ⟨hP, hD⟩ hS (lv_sub hl [1, 2, 3, 4, 0] rfl)
abbrev rmX4_become : Room := { frames := 0, cells := 0, slots := 0, locals := 0 }
theorem hiX4_become_4 : ∀ w ∈ wsX40, w ∈ wsX4_become := fun w h => (goodIn_r (big := wsX4_become) wsX40 [4, 5, 6, 7] rfl (by decide +kernel) w h).1
set_option maxRecDepth 100000 in
set_option maxHeartbeats 4000000 in
theorem c_X4_become (l : Launch) (D : va_G) (cI cZ cR : ClassId) (a_ra : Nat) (a_rb : Nat) (a_rb_spoons : Nat) (a_ra_spoons : Nat) (a_hrb : Nat) (a_hra : Nat) (rb_springs : Int32) (rb_lost : Int32) (ra_springs : Int32) (ra_lost : Int32) (rb_spoons : Nat → Int32) (ra_spoons : Nat → Int32) (out : Int32 × Int32 × (Nat → Int32)) (hf : f_X4_become rb_springs rb_lost rb_spoons ra_spoons = some out) : Cv l yX4_become wsX4_become rmX4_become D cI cZ cR [.ref a_ra, .ref a_rb] [(a_rb, .inr (4, [.ref a_hrb, .ref a_rb_spoons, .int rb_springs, .int rb_lost])), (a_ra, .inr (4, [.ref a_hra, .ref a_ra_spoons, .int ra_springs, .int ra_lost])), (a_rb_spoons, .inl (cI, 49, .inl rb_spoons)), (a_ra_spoons, .inl (cI, 49, .inl ra_spoons))] [(a_rb, .inr (4, [.ref a_hrb, .ref a_rb_spoons, .int rb_springs, .int rb_lost])), (a_ra, .inr (4, [.ref a_hra, .ref a_ra_spoons, .int out.1, .int out.2.1])), (a_rb_spoons, .inl (cI, 49, .inl rb_spoons)), (a_ra_spoons, .inl (cI, 49, .inl out.2.2))] := by
  refine ent_v (cc := cX4_become) (maxL := 3) (by decide) rfl (Nat.le_of_ble_eq_true rfl) ?_
  intro p e s m below meth c A Q hx hb hml hown hts hE hA hP hD hS hret ls hl
  have hown : s.vm.findClass RX4 = some m.cls := hown
  have hl : lv_has ls 3 [(0, .ref a_ra), (1, .ref a_rb)] := hl
  have fL9 := hts (.fieldLink RX4 9 "RainShelves$Rain" "spoons" "[I") (List.mem_of_getElem? (i := 3) rfl)
  have fL19 := hts (.fieldLink RX4 19 "RainShelves$Rain" "springs" "I") (List.mem_of_getElem? (i := 1) rfl)
  have fL23 := hts (.fieldLink RX4 23 "RainShelves$Rain" "lost" "I") (List.mem_of_getElem? (i := 2) rfl)
  unfold f_X4_become at hf
  have L18 : ∀ (ra_springs_18 : Int32) (ra_lost_18 : Int32) (n18 : Nat) (v2_18 : Int32) (ra_spoons_18 : Nat → Int32), f_X4_become_L18 rb_spoons ra_springs_18 ra_lost_18 n18 v2_18 ra_spoons_18 = some out → ∀ (H : Heap) (locs : List Loc) (ls : Array Slot), PD D A [(a_rb, .inr (4, [.ref a_hrb, .ref a_rb_spoons, .int rb_springs, .int rb_lost])), (a_ra, .inr (4, [.ref a_hra, .ref a_ra_spoons, .int ra_springs_18, .int ra_lost_18])), (a_rb_spoons, .inl (cI, 49, .inl rb_spoons)), (a_ra_spoons, .inl (cI, 49, .inl ra_spoons_18))] H → va_S A s.heap H locs → lv_has ls 3 [(0, .ref a_ra), (1, .ref a_rb), (2, .int v2_18)] → W p l e rmX4_become s m ([.ref a_ra, .ref a_rb] : List Value).toArray below meth c H locs 0 0 Q (F0 m 18 ls []) := by
    intro ra_springs_18 ra_lost_18 n18
    induction n18 with
    | zero => intro v2_18 ra_spoons_18 hf; cases hf
    | succ n18 ih18 =>
      intro v2_18 ra_spoons_18 hf H locs ls hPD hS hl
      obtain ⟨hP, hD⟩ := hPD
      have hf : f_X4_become_B18 rb_spoons ra_springs_18 ra_lost_18 (f_X4_become_L18 rb_spoons ra_springs_18 ra_lost_18 n18) v2_18 ra_spoons_18 = some out := hf
      unfold f_X4_become_B18 at hf
      refine lv_iload_n hx hb dX4_become_18 rfl (lv_at hl 2 rfl) ?_
      refine lv_bipush (v := 49) hx hb dX4_become_19 (by decide) ?_
      refine lv_icmp_ge (tgt := 42) hx hb dX4_become_21 (by decide) (fun hc1 => ?_) (fun hc1 => ?_)
      · have hf := if_t hf hc1
        have he := Option.some.inj hf
        subst he
        exact hret _ _ _ _ dX4_become_42 hP hD hS
      · have hf := if_f hf hc1
        refine lv_aload_n hx hb dX4_become_24 rfl (lv_at hl 0 rfl) ?_
        refine va_get (D := D) (ci := 4) (v := .ref a_ra_spoons) (C := RX4) (T := TX4) (N := 4) hx hb hts hiX4_become_4 hown hE.1 hP 1 rfl rfl 1 (by decide) fL9 (fun _ h9 => h9) rfl dX4_become_25 ?_
        refine lv_iload_n hx hb dX4_become_28 rfl (lv_at hl 2 rfl) ?_
        refine lv_aload_n hx hb dX4_become_29 rfl (lv_at hl 1 rfl) ?_
        refine va_get (D := D) (ci := 4) (v := .ref a_rb_spoons) (C := RX4) (T := TX4) (N := 4) hx hb hts hiX4_become_4 hown hE.1 hP 0 rfl rfl 1 (by decide) fL9 (fun _ h9 => h9) rfl dX4_become_30 ?_
        refine lv_iload_n hx hb dX4_become_33 rfl (lv_at hl 2 rfl) ?_
        obtain ⟨hc2, hf⟩ := ck_some hf
        refine va_iald hx hb hE.1 hP 2 0 rfl rfl (ix_in hc2) dX4_become_34 ?_
        obtain ⟨hc3, hf⟩ := ck_some hf
        refine va_iast hx hb hE.1 hP hD hS 3 0 rfl rfl (ix_in hc3) dX4_become_35 (fun H locs hP hD hS => ?_)
        have hPD : PD D A [(a_rb, .inr (4, [.ref a_hrb, .ref a_rb_spoons, .int rb_springs, .int rb_lost])), (a_ra, .inr (4, [.ref a_hra, .ref a_ra_spoons, .int ra_springs_18, .int ra_lost_18])), (a_rb_spoons, .inl (cI, 49, .inl rb_spoons)), (a_ra_spoons, .inl (cI, 49, .inl (upd ra_spoons_18 v2_18.toNatClampNeg (rb_spoons v2_18.toNatClampNeg))))] H := ⟨hP, hD⟩
        obtain ⟨hP, hD⟩ := hPD
        refine lv_iinc (v := (v2_18 + 1)) (lv' := [(2, .int (v2_18 + 1)), (0, .ref a_ra), (1, .ref a_rb)]) hx hb dX4_become_36 hl (k := 2) rfl (ii_p1 _) (by decide) rfl (fun ls hl => ?_)
        refine lv_goto (tgt := 18) hx hb dX4_become_39 (by decide) ?_
        exact ih18 (v2_18 + 1) (upd ra_spoons_18 v2_18.toNatClampNeg (rb_spoons v2_18.toNatClampNeg)) hf _ _ _ ⟨hP, hD⟩ hS (lv_sub hl [1, 2, 0] rfl)
  refine lv_aload_n hx hb dX4_become_0 rfl (lv_at hl 0 rfl) ?_
  refine lv_aload_n hx hb dX4_become_1 rfl (lv_at hl 1 rfl) ?_
  refine va_get (D := D) (ci := 4) (v := .int rb_springs) (C := RX4) (T := TX4) (N := 4) hx hb hts hiX4_become_4 hown hE.1 hP 0 rfl rfl 2 (by decide) fL19 (fun _ h9 => h9) rfl dX4_become_2 ?_
  refine va_put (D := D) (ci := 4) (v := .int rb_springs) (ty := .int) (C := RX4) (T := TX4) (N := 4) hx hb hts hiX4_become_4 tyX4 tyX4_ok nmX4 hown hE.1 hP hD hS 1 rfl rfl 2 (by decide) fL19 (fun _ h9 => h9) rfl (tyX4_ok 2 (by decide)) rfl rfl (Nat.le_of_ble_eq_true rfl) dX4_become_5 (fun H locs hP hD hS => ?_)
  have hPD : PD D A [(a_rb, .inr (4, [.ref a_hrb, .ref a_rb_spoons, .int rb_springs, .int rb_lost])), (a_ra, .inr (4, [.ref a_hra, .ref a_ra_spoons, .int rb_springs, .int ra_lost])), (a_rb_spoons, .inl (cI, 49, .inl rb_spoons)), (a_ra_spoons, .inl (cI, 49, .inl ra_spoons))] H := ⟨hP, hD⟩
  obtain ⟨hP, hD⟩ := hPD
  refine lv_aload_n hx hb dX4_become_8 rfl (lv_at hl 0 rfl) ?_
  refine lv_aload_n hx hb dX4_become_9 rfl (lv_at hl 1 rfl) ?_
  refine va_get (D := D) (ci := 4) (v := .int rb_lost) (C := RX4) (T := TX4) (N := 4) hx hb hts hiX4_become_4 hown hE.1 hP 0 rfl rfl 3 (by decide) fL23 (fun _ h9 => h9) rfl dX4_become_10 ?_
  refine va_put (D := D) (ci := 4) (v := .int rb_lost) (ty := .int) (C := RX4) (T := TX4) (N := 4) hx hb hts hiX4_become_4 tyX4 tyX4_ok nmX4 hown hE.1 hP hD hS 1 rfl rfl 3 (by decide) fL23 (fun _ h9 => h9) rfl (tyX4_ok 3 (by decide)) rfl rfl (Nat.le_of_ble_eq_true rfl) dX4_become_13 (fun H locs hP hD hS => ?_)
  have hPD : PD D A [(a_rb, .inr (4, [.ref a_hrb, .ref a_rb_spoons, .int rb_springs, .int rb_lost])), (a_ra, .inr (4, [.ref a_hra, .ref a_ra_spoons, .int rb_springs, .int rb_lost])), (a_rb_spoons, .inl (cI, 49, .inl rb_spoons)), (a_ra_spoons, .inl (cI, 49, .inl ra_spoons))] H := ⟨hP, hD⟩
  obtain ⟨hP, hD⟩ := hPD
  refine lv_iconst (v := 0) hx hb dX4_become_16 (by decide) ?_
  refine lv_istore_n (lv' := [(2, .int 0), (0, .ref a_ra), (1, .ref a_rb)]) hx hb dX4_become_17 rfl hl (by decide) rfl (fun ls hl => ?_)
  exact L18 rb_springs rb_lost FU 0 ra_spoons hf _ _ _ ⟨hP, hD⟩ hS (lv_sub hl [1, 2, 0] rfl)
abbrev rmX1_remember : Room := { frames := 1, cells := 0, slots := 0, locals := 22 }
theorem hiX1_remember_1 : ∀ w ∈ wsX10, w ∈ wsX1_remember := fun w h => (goodIn_r (big := wsX1_remember) wsX10 [15, 16, 17] rfl (by decide +kernel) w h).1
theorem cw_X1_remember_X4_become_24 {s : State} {args : Array Value} {D : va_G} {cI cZ cR : ClassId} (hE : EV D cI cZ cR s) (hts : ∀ x ∈ wsX1_remember, x.before args s = true) : va_CN rmX1_remember s args RX1 24 yX4_become "RainShelves" cX4_become 3 none wsX4_become rmX4_become 0 0 1 ∧ (Cond.instanceMethod yX4_become).before args s = true ∧ (Cond.selects RX4 yX4_become yX4_become).before args s = true := ⟨va_cnB 1 hts gX1_remember_X4_become_n24 rfl rfl rfl (hE.nm 25 rfl) (hts (.initialized RX4) (List.mem_of_getElem? (i := 9) rfl)) (by decide +kernel) ⟨Nat.le_of_ble_eq_true rfl, Nat.le_of_ble_eq_true rfl⟩, hts (.instanceMethod yX4_become) (List.mem_of_getElem? (i := 8) rfl), hts (.selects RX4 yX4_become yX4_become) (List.mem_of_getElem? (i := 10) rfl)⟩
set_option maxRecDepth 100000 in
set_option maxHeartbeats 4000000 in
theorem c_X1_remember (l : Launch) (D : va_G) (cI cZ cR : ClassId) (a_hist : Nat) (a_rain : Nat) (a_hist_rows : Nat) (a_house : Nat) (a_rows : Nat → Nat) (a_rows_sp : Nat → Nat) (a_rain_spoons : Nat) (hist_known : Int32) (hist_next : Int32) (rows_springs : Nat → Int32) (rows_lost : Nat → Int32) (rows_sp : Nat → Nat → Int32) (rain_springs : Int32) (rain_lost : Int32) (rain_spoons : Nat → Int32) (out : Int32 × Int32 × (Nat → Int32) × (Nat → Int32) × (Nat → Nat → Int32)) (hf : f_X1_remember hist_known hist_next rows_springs rows_lost rows_sp rain_springs rain_lost rain_spoons = some out) : Cv l yX1_remember wsX1_remember rmX1_remember D cI cZ cR [.ref a_hist, .ref a_rain] [(a_hist, .inr (1, [.ref a_hist_rows, .int hist_known, .int hist_next])), (a_hist_rows, .inl (cR, 10, .inr (.inr (.inr (.inr (fun j => some (a_rows j))))))), (a_rows 0, .inr (4, [.ref a_house, .ref (a_rows_sp 0), .int (rows_springs 0), .int (rows_lost 0)])), (a_rows_sp 0, .inl (cI, 49, .inl (rows_sp 0))), (a_rows 1, .inr (4, [.ref a_house, .ref (a_rows_sp 1), .int (rows_springs 1), .int (rows_lost 1)])), (a_rows_sp 1, .inl (cI, 49, .inl (rows_sp 1))), (a_rows 2, .inr (4, [.ref a_house, .ref (a_rows_sp 2), .int (rows_springs 2), .int (rows_lost 2)])), (a_rows_sp 2, .inl (cI, 49, .inl (rows_sp 2))), (a_rows 3, .inr (4, [.ref a_house, .ref (a_rows_sp 3), .int (rows_springs 3), .int (rows_lost 3)])), (a_rows_sp 3, .inl (cI, 49, .inl (rows_sp 3))), (a_rows 4, .inr (4, [.ref a_house, .ref (a_rows_sp 4), .int (rows_springs 4), .int (rows_lost 4)])), (a_rows_sp 4, .inl (cI, 49, .inl (rows_sp 4))), (a_rows 5, .inr (4, [.ref a_house, .ref (a_rows_sp 5), .int (rows_springs 5), .int (rows_lost 5)])), (a_rows_sp 5, .inl (cI, 49, .inl (rows_sp 5))), (a_rows 6, .inr (4, [.ref a_house, .ref (a_rows_sp 6), .int (rows_springs 6), .int (rows_lost 6)])), (a_rows_sp 6, .inl (cI, 49, .inl (rows_sp 6))), (a_rows 7, .inr (4, [.ref a_house, .ref (a_rows_sp 7), .int (rows_springs 7), .int (rows_lost 7)])), (a_rows_sp 7, .inl (cI, 49, .inl (rows_sp 7))), (a_rows 8, .inr (4, [.ref a_house, .ref (a_rows_sp 8), .int (rows_springs 8), .int (rows_lost 8)])), (a_rows_sp 8, .inl (cI, 49, .inl (rows_sp 8))), (a_rows 9, .inr (4, [.ref a_house, .ref (a_rows_sp 9), .int (rows_springs 9), .int (rows_lost 9)])), (a_rows_sp 9, .inl (cI, 49, .inl (rows_sp 9))), (a_rain, .inr (4, [.ref a_house, .ref a_rain_spoons, .int rain_springs, .int rain_lost])), (a_rain_spoons, .inl (cI, 49, .inl rain_spoons))] [(a_hist, .inr (1, [.ref a_hist_rows, .int out.1, .int out.2.1])), (a_hist_rows, .inl (cR, 10, .inr (.inr (.inr (.inr (fun j => some (a_rows j))))))), (a_rows 0, .inr (4, [.ref a_house, .ref (a_rows_sp 0), .int (out.2.2.1 0), .int (out.2.2.2.1 0)])), (a_rows_sp 0, .inl (cI, 49, .inl (out.2.2.2.2 0))), (a_rows 1, .inr (4, [.ref a_house, .ref (a_rows_sp 1), .int (out.2.2.1 1), .int (out.2.2.2.1 1)])), (a_rows_sp 1, .inl (cI, 49, .inl (out.2.2.2.2 1))), (a_rows 2, .inr (4, [.ref a_house, .ref (a_rows_sp 2), .int (out.2.2.1 2), .int (out.2.2.2.1 2)])), (a_rows_sp 2, .inl (cI, 49, .inl (out.2.2.2.2 2))), (a_rows 3, .inr (4, [.ref a_house, .ref (a_rows_sp 3), .int (out.2.2.1 3), .int (out.2.2.2.1 3)])), (a_rows_sp 3, .inl (cI, 49, .inl (out.2.2.2.2 3))), (a_rows 4, .inr (4, [.ref a_house, .ref (a_rows_sp 4), .int (out.2.2.1 4), .int (out.2.2.2.1 4)])), (a_rows_sp 4, .inl (cI, 49, .inl (out.2.2.2.2 4))), (a_rows 5, .inr (4, [.ref a_house, .ref (a_rows_sp 5), .int (out.2.2.1 5), .int (out.2.2.2.1 5)])), (a_rows_sp 5, .inl (cI, 49, .inl (out.2.2.2.2 5))), (a_rows 6, .inr (4, [.ref a_house, .ref (a_rows_sp 6), .int (out.2.2.1 6), .int (out.2.2.2.1 6)])), (a_rows_sp 6, .inl (cI, 49, .inl (out.2.2.2.2 6))), (a_rows 7, .inr (4, [.ref a_house, .ref (a_rows_sp 7), .int (out.2.2.1 7), .int (out.2.2.2.1 7)])), (a_rows_sp 7, .inl (cI, 49, .inl (out.2.2.2.2 7))), (a_rows 8, .inr (4, [.ref a_house, .ref (a_rows_sp 8), .int (out.2.2.1 8), .int (out.2.2.2.1 8)])), (a_rows_sp 8, .inl (cI, 49, .inl (out.2.2.2.2 8))), (a_rows 9, .inr (4, [.ref a_house, .ref (a_rows_sp 9), .int (out.2.2.1 9), .int (out.2.2.2.1 9)])), (a_rows_sp 9, .inl (cI, 49, .inl (out.2.2.2.2 9))), (a_rain, .inr (4, [.ref a_house, .ref a_rain_spoons, .int rain_springs, .int rain_lost])), (a_rain_spoons, .inl (cI, 49, .inl rain_spoons))] := by
  refine ent_v (cc := cX1_remember) (maxL := 2) (by decide) rfl (Nat.le_of_ble_eq_true rfl) ?_
  intro p e s m below meth c A Q hx hb hml hown hts hE hA hP hD hS hret ls hl
  have hown : s.vm.findClass RX1 = some m.cls := hown
  have hl : lv_has ls 2 [(0, .ref a_hist), (1, .ref a_rain)] := hl
  have fL11 := hts (.fieldLink RX1 11 "RainShelves$History" "rows" "[LRainShelves$Rain;") (List.mem_of_getElem? (i := 1) rfl)
  have fL20 := hts (.fieldLink RX1 20 "RainShelves$History" "next" "I") (List.mem_of_getElem? (i := 2) rfl)
  have fL28 := hts (.fieldLink RX1 28 "RainShelves$History" "known" "I") (List.mem_of_getElem? (i := 3) rfl)
  have mBmin := hts (.static Lib.Math.min.name) (List.mem_of_getElem? (i := 5) rfl)
  have mDmin := hts (.code Lib.Math.min.name Lib.Math.min.code 2 (some .int)) (List.mem_of_getElem? (i := 7) rfl)
  have mC := hts (.initialized "java/lang/Math") (List.mem_of_getElem? (i := 6) rfl)
  have mA31 := hts (.methodLink RX1 31 Lib.Math.min.name) (List.mem_of_getElem? (i := 4) rfl)
  unfold f_X1_remember at hf
  have J35 : ∀ (rows_springs_35 : Nat → Int32) (rows_lost_35 : Nat → Int32) (rows_sp_35 : Nat → Nat → Int32) (s1_35 : Int32), f_X1_remember_J35 hist_known rows_springs_35 rows_lost_35 rows_sp_35 s1_35 = some out → ∀ (H : Heap) (locs : List Loc) (ls : Array Slot), PD D A [(a_hist, .inr (1, [.ref a_hist_rows, .int hist_known, .int hist_next])), (a_hist_rows, .inl (cR, 10, .inr (.inr (.inr (.inr (fun j => some (a_rows j))))))), (a_rows 0, .inr (4, [.ref a_house, .ref (a_rows_sp 0), .int (rows_springs_35 0), .int (rows_lost_35 0)])), (a_rows_sp 0, .inl (cI, 49, .inl (rows_sp_35 0))), (a_rows 1, .inr (4, [.ref a_house, .ref (a_rows_sp 1), .int (rows_springs_35 1), .int (rows_lost_35 1)])), (a_rows_sp 1, .inl (cI, 49, .inl (rows_sp_35 1))), (a_rows 2, .inr (4, [.ref a_house, .ref (a_rows_sp 2), .int (rows_springs_35 2), .int (rows_lost_35 2)])), (a_rows_sp 2, .inl (cI, 49, .inl (rows_sp_35 2))), (a_rows 3, .inr (4, [.ref a_house, .ref (a_rows_sp 3), .int (rows_springs_35 3), .int (rows_lost_35 3)])), (a_rows_sp 3, .inl (cI, 49, .inl (rows_sp_35 3))), (a_rows 4, .inr (4, [.ref a_house, .ref (a_rows_sp 4), .int (rows_springs_35 4), .int (rows_lost_35 4)])), (a_rows_sp 4, .inl (cI, 49, .inl (rows_sp_35 4))), (a_rows 5, .inr (4, [.ref a_house, .ref (a_rows_sp 5), .int (rows_springs_35 5), .int (rows_lost_35 5)])), (a_rows_sp 5, .inl (cI, 49, .inl (rows_sp_35 5))), (a_rows 6, .inr (4, [.ref a_house, .ref (a_rows_sp 6), .int (rows_springs_35 6), .int (rows_lost_35 6)])), (a_rows_sp 6, .inl (cI, 49, .inl (rows_sp_35 6))), (a_rows 7, .inr (4, [.ref a_house, .ref (a_rows_sp 7), .int (rows_springs_35 7), .int (rows_lost_35 7)])), (a_rows_sp 7, .inl (cI, 49, .inl (rows_sp_35 7))), (a_rows 8, .inr (4, [.ref a_house, .ref (a_rows_sp 8), .int (rows_springs_35 8), .int (rows_lost_35 8)])), (a_rows_sp 8, .inl (cI, 49, .inl (rows_sp_35 8))), (a_rows 9, .inr (4, [.ref a_house, .ref (a_rows_sp 9), .int (rows_springs_35 9), .int (rows_lost_35 9)])), (a_rows_sp 9, .inl (cI, 49, .inl (rows_sp_35 9))), (a_rain, .inr (4, [.ref a_house, .ref a_rain_spoons, .int rain_springs, .int rain_lost])), (a_rain_spoons, .inl (cI, 49, .inl rain_spoons))] H → va_S A s.heap H locs → lv_has ls 2 [(0, .ref a_hist)] → W p l e rmX1_remember s m ([.ref a_hist, .ref a_rain] : List Value).toArray below meth c H locs 0 0 Q (F0 m 35 ls [.int s1_35, .ref a_hist]) := by
    intro rows_springs_35 rows_lost_35 rows_sp_35 s1_35 hf H locs ls hPD hS hl
    obtain ⟨hP, hD⟩ := hPD
    unfold f_X1_remember_J35 at hf
    refine va_put (D := D) (ci := 1) (v := .int s1_35) (ty := .int) (C := RX1) (T := TX1) (N := 3) hx hb hts hiX1_remember_1 tyX1 tyX1_ok nmX1 hown hE.1 hP hD hS 0 rfl rfl 2 (by decide) fL20 (fun _ h9 => h9) rfl (tyX1_ok 2 (by decide)) rfl rfl (Nat.le_of_ble_eq_true rfl) dX1_remember_35 (fun H locs hP hD hS => ?_)
    have hPD : PD D A [(a_hist, .inr (1, [.ref a_hist_rows, .int hist_known, .int s1_35])), (a_hist_rows, .inl (cR, 10, .inr (.inr (.inr (.inr (fun j => some (a_rows j))))))), (a_rows 0, .inr (4, [.ref a_house, .ref (a_rows_sp 0), .int (rows_springs_35 0), .int (rows_lost_35 0)])), (a_rows_sp 0, .inl (cI, 49, .inl (rows_sp_35 0))), (a_rows 1, .inr (4, [.ref a_house, .ref (a_rows_sp 1), .int (rows_springs_35 1), .int (rows_lost_35 1)])), (a_rows_sp 1, .inl (cI, 49, .inl (rows_sp_35 1))), (a_rows 2, .inr (4, [.ref a_house, .ref (a_rows_sp 2), .int (rows_springs_35 2), .int (rows_lost_35 2)])), (a_rows_sp 2, .inl (cI, 49, .inl (rows_sp_35 2))), (a_rows 3, .inr (4, [.ref a_house, .ref (a_rows_sp 3), .int (rows_springs_35 3), .int (rows_lost_35 3)])), (a_rows_sp 3, .inl (cI, 49, .inl (rows_sp_35 3))), (a_rows 4, .inr (4, [.ref a_house, .ref (a_rows_sp 4), .int (rows_springs_35 4), .int (rows_lost_35 4)])), (a_rows_sp 4, .inl (cI, 49, .inl (rows_sp_35 4))), (a_rows 5, .inr (4, [.ref a_house, .ref (a_rows_sp 5), .int (rows_springs_35 5), .int (rows_lost_35 5)])), (a_rows_sp 5, .inl (cI, 49, .inl (rows_sp_35 5))), (a_rows 6, .inr (4, [.ref a_house, .ref (a_rows_sp 6), .int (rows_springs_35 6), .int (rows_lost_35 6)])), (a_rows_sp 6, .inl (cI, 49, .inl (rows_sp_35 6))), (a_rows 7, .inr (4, [.ref a_house, .ref (a_rows_sp 7), .int (rows_springs_35 7), .int (rows_lost_35 7)])), (a_rows_sp 7, .inl (cI, 49, .inl (rows_sp_35 7))), (a_rows 8, .inr (4, [.ref a_house, .ref (a_rows_sp 8), .int (rows_springs_35 8), .int (rows_lost_35 8)])), (a_rows_sp 8, .inl (cI, 49, .inl (rows_sp_35 8))), (a_rows 9, .inr (4, [.ref a_house, .ref (a_rows_sp 9), .int (rows_springs_35 9), .int (rows_lost_35 9)])), (a_rows_sp 9, .inl (cI, 49, .inl (rows_sp_35 9))), (a_rain, .inr (4, [.ref a_house, .ref a_rain_spoons, .int rain_springs, .int rain_lost])), (a_rain_spoons, .inl (cI, 49, .inl rain_spoons))] H := ⟨hP, hD⟩
    obtain ⟨hP, hD⟩ := hPD
    refine lv_aload_n hx hb dX1_remember_38 rfl (lv_at hl 0 rfl) ?_
    refine lv_bipush (v := 10) hx hb dX1_remember_39 (by decide) ?_
    refine lv_aload_n hx hb dX1_remember_41 rfl (lv_at hl 0 rfl) ?_
    refine va_get (D := D) (ci := 1) (v := .int hist_known) (C := RX1) (T := TX1) (N := 3) hx hb hts hiX1_remember_1 hown hE.1 hP 0 rfl rfl 1 (by decide) fL28 (fun _ h9 => h9) rfl dX1_remember_42 ?_
    refine lv_iconst (v := 1) hx hb dX1_remember_45 (by decide) ?_
    refine lv_iadd hx hb dX1_remember_46 ?_
    refine va_mmin hx hb (hml.trans hl.1.symm) hown mA31 mBmin mC mDmin (Nat.le_of_ble_eq_true rfl) (Nat.le_of_ble_eq_true rfl) (Nat.zero_le _) (Nat.zero_le _) dX1_remember_47 ?_
    refine va_put (D := D) (ci := 1) (v := .int (if (hist_known + 1) < (10 : Int32) then (hist_known + 1) else (10 : Int32))) (ty := .int) (C := RX1) (T := TX1) (N := 3) hx hb hts hiX1_remember_1 tyX1 tyX1_ok nmX1 hown hE.1 hP hD hS 0 rfl rfl 1 (by decide) fL28 (fun _ h9 => h9) rfl (tyX1_ok 1 (by decide)) rfl rfl (Nat.le_of_ble_eq_true rfl) dX1_remember_50 (fun H locs hP hD hS => ?_)
    have hPD : PD D A [(a_hist, .inr (1, [.ref a_hist_rows, .int (if (hist_known + 1) < (10 : Int32) then (hist_known + 1) else (10 : Int32)), .int s1_35])), (a_hist_rows, .inl (cR, 10, .inr (.inr (.inr (.inr (fun j => some (a_rows j))))))), (a_rows 0, .inr (4, [.ref a_house, .ref (a_rows_sp 0), .int (rows_springs_35 0), .int (rows_lost_35 0)])), (a_rows_sp 0, .inl (cI, 49, .inl (rows_sp_35 0))), (a_rows 1, .inr (4, [.ref a_house, .ref (a_rows_sp 1), .int (rows_springs_35 1), .int (rows_lost_35 1)])), (a_rows_sp 1, .inl (cI, 49, .inl (rows_sp_35 1))), (a_rows 2, .inr (4, [.ref a_house, .ref (a_rows_sp 2), .int (rows_springs_35 2), .int (rows_lost_35 2)])), (a_rows_sp 2, .inl (cI, 49, .inl (rows_sp_35 2))), (a_rows 3, .inr (4, [.ref a_house, .ref (a_rows_sp 3), .int (rows_springs_35 3), .int (rows_lost_35 3)])), (a_rows_sp 3, .inl (cI, 49, .inl (rows_sp_35 3))), (a_rows 4, .inr (4, [.ref a_house, .ref (a_rows_sp 4), .int (rows_springs_35 4), .int (rows_lost_35 4)])), (a_rows_sp 4, .inl (cI, 49, .inl (rows_sp_35 4))), (a_rows 5, .inr (4, [.ref a_house, .ref (a_rows_sp 5), .int (rows_springs_35 5), .int (rows_lost_35 5)])), (a_rows_sp 5, .inl (cI, 49, .inl (rows_sp_35 5))), (a_rows 6, .inr (4, [.ref a_house, .ref (a_rows_sp 6), .int (rows_springs_35 6), .int (rows_lost_35 6)])), (a_rows_sp 6, .inl (cI, 49, .inl (rows_sp_35 6))), (a_rows 7, .inr (4, [.ref a_house, .ref (a_rows_sp 7), .int (rows_springs_35 7), .int (rows_lost_35 7)])), (a_rows_sp 7, .inl (cI, 49, .inl (rows_sp_35 7))), (a_rows 8, .inr (4, [.ref a_house, .ref (a_rows_sp 8), .int (rows_springs_35 8), .int (rows_lost_35 8)])), (a_rows_sp 8, .inl (cI, 49, .inl (rows_sp_35 8))), (a_rows 9, .inr (4, [.ref a_house, .ref (a_rows_sp 9), .int (rows_springs_35 9), .int (rows_lost_35 9)])), (a_rows_sp 9, .inl (cI, 49, .inl (rows_sp_35 9))), (a_rain, .inr (4, [.ref a_house, .ref a_rain_spoons, .int rain_springs, .int rain_lost])), (a_rain_spoons, .inl (cI, 49, .inl rain_spoons))] H := ⟨hP, hD⟩
    obtain ⟨hP, hD⟩ := hPD
    have he := Option.some.inj hf
    subst he
    exact hret _ _ _ _ dX1_remember_53 hP hD hS
  refine lv_aload_n hx hb dX1_remember_0 rfl (lv_at hl 0 rfl) ?_
  refine va_get (D := D) (ci := 1) (v := .ref a_hist_rows) (C := RX1) (T := TX1) (N := 3) hx hb hts hiX1_remember_1 hown hE.1 hP 0 rfl rfl 0 (by decide) fL11 (fun _ h9 => h9) rfl dX1_remember_1 ?_
  refine lv_aload_n hx hb dX1_remember_4 rfl (lv_at hl 0 rfl) ?_
  refine va_get (D := D) (ci := 1) (v := .int hist_next) (C := RX1) (T := TX1) (N := 3) hx hb hts hiX1_remember_1 hown hE.1 hP 0 rfl rfl 2 (by decide) fL20 (fun _ h9 => h9) rfl dX1_remember_5 ?_
  obtain ⟨hc1, hf⟩ := ck_some hf
  rcases ix_cases10 hc1 with hj | hj | hj | hj | hj | hj | hj | hj | hj | hj
  · rw [hj] at hf
    refine va_aldq hx hb hE.1 hP 1 2 rfl rfl (ix_in hc1) dX1_remember_8 ?_
    refine W.eq (g2 := F0 m 9 ls [.ref (a_rows 0)]) (by rw [hj]; rfl) ?_
    refine lv_aload_n hx hb dX1_remember_9 rfl (lv_at hl 1 rfl) ?_
    obtain ⟨u2, hu2, hf⟩ := bd_some hf
    refine cl_vN (As := [.ref a_rain]) (rest := []) ⟨hx, hb, hml, hown, hts⟩ (c_X4_become l D cI cZ cR (a_rows 0) a_rain a_rain_spoons (a_rows_sp 0) a_house a_house rain_springs rain_lost (rows_springs 0) (rows_lost 0) rain_spoons (rows_sp 0)  u2 hu2) (cw_X1_remember_X4_become_24 hE hts) hE hP hD hS hA [22, 2, 23, 3] rfl rfl [a_rain, (a_rows 0), a_rain_spoons, (a_rows_sp 0)] rfl rfl 2 4 rfl rfl rfl hl.1 rfl (Nat.le_of_ble_eq_true rfl) dX1_remember_10 ⟨Nat.zero_le _, Nat.zero_le _⟩ (fun H locs hP hD hS => ?_)
    have hPD : PD D A [(a_hist, .inr (1, [.ref a_hist_rows, .int hist_known, .int hist_next])), (a_hist_rows, .inl (cR, 10, .inr (.inr (.inr (.inr (fun j => some (a_rows j))))))), (a_rows 0, .inr (4, [.ref a_house, .ref (a_rows_sp 0), .int u2.1, .int u2.2.1])), (a_rows_sp 0, .inl (cI, 49, .inl u2.2.2)), (a_rows 1, .inr (4, [.ref a_house, .ref (a_rows_sp 1), .int (rows_springs 1), .int (rows_lost 1)])), (a_rows_sp 1, .inl (cI, 49, .inl (rows_sp 1))), (a_rows 2, .inr (4, [.ref a_house, .ref (a_rows_sp 2), .int (rows_springs 2), .int (rows_lost 2)])), (a_rows_sp 2, .inl (cI, 49, .inl (rows_sp 2))), (a_rows 3, .inr (4, [.ref a_house, .ref (a_rows_sp 3), .int (rows_springs 3), .int (rows_lost 3)])), (a_rows_sp 3, .inl (cI, 49, .inl (rows_sp 3))), (a_rows 4, .inr (4, [.ref a_house, .ref (a_rows_sp 4), .int (rows_springs 4), .int (rows_lost 4)])), (a_rows_sp 4, .inl (cI, 49, .inl (rows_sp 4))), (a_rows 5, .inr (4, [.ref a_house, .ref (a_rows_sp 5), .int (rows_springs 5), .int (rows_lost 5)])), (a_rows_sp 5, .inl (cI, 49, .inl (rows_sp 5))), (a_rows 6, .inr (4, [.ref a_house, .ref (a_rows_sp 6), .int (rows_springs 6), .int (rows_lost 6)])), (a_rows_sp 6, .inl (cI, 49, .inl (rows_sp 6))), (a_rows 7, .inr (4, [.ref a_house, .ref (a_rows_sp 7), .int (rows_springs 7), .int (rows_lost 7)])), (a_rows_sp 7, .inl (cI, 49, .inl (rows_sp 7))), (a_rows 8, .inr (4, [.ref a_house, .ref (a_rows_sp 8), .int (rows_springs 8), .int (rows_lost 8)])), (a_rows_sp 8, .inl (cI, 49, .inl (rows_sp 8))), (a_rows 9, .inr (4, [.ref a_house, .ref (a_rows_sp 9), .int (rows_springs 9), .int (rows_lost 9)])), (a_rows_sp 9, .inl (cI, 49, .inl (rows_sp 9))), (a_rain, .inr (4, [.ref a_house, .ref a_rain_spoons, .int rain_springs, .int rain_lost])), (a_rain_spoons, .inl (cI, 49, .inl rain_spoons))] H := ⟨hP, hD⟩
    obtain ⟨hP, hD⟩ := hPD
    refine lv_aload_n hx hb dX1_remember_13 rfl (lv_at hl 0 rfl) ?_
    refine lv_aload_n hx hb dX1_remember_14 rfl (lv_at hl 0 rfl) ?_
    refine va_get (D := D) (ci := 1) (v := .int hist_next) (C := RX1) (T := TX1) (N := 3) hx hb hts hiX1_remember_1 hown hE.1 hP 0 rfl rfl 2 (by decide) fL20 (fun _ h9 => h9) rfl dX1_remember_15 ?_
    refine lv_iconst (v := 1) hx hb dX1_remember_18 (by decide) ?_
    refine lv_iadd hx hb dX1_remember_19 ?_
    refine lv_bipush (v := 10) hx hb dX1_remember_20 (by decide) ?_
    refine lv_icmp_ge (tgt := 34) hx hb dX1_remember_22 (by decide) (fun hc3 => ?_) (fun hc3 => ?_)
    · have hf := if_t hf hc3
      refine lv_iconst (v := 0) hx hb dX1_remember_34 (by decide) ?_
      exact J35 (va_up rows_springs 0 u2.1) (va_up rows_lost 0 u2.2.1) (va_up rows_sp 0 u2.2.2) 0 hf _ _ _ ⟨hP, hD⟩ hS (lv_sub hl [0] rfl)
    · have hf := if_f hf hc3
      refine lv_aload_n hx hb dX1_remember_25 rfl (lv_at hl 0 rfl) ?_
      refine va_get (D := D) (ci := 1) (v := .int hist_next) (C := RX1) (T := TX1) (N := 3) hx hb hts hiX1_remember_1 hown hE.1 hP 0 rfl rfl 2 (by decide) fL20 (fun _ h9 => h9) rfl dX1_remember_26 ?_
      refine lv_iconst (v := 1) hx hb dX1_remember_29 (by decide) ?_
      refine lv_iadd hx hb dX1_remember_30 ?_
      refine lv_goto (tgt := 35) hx hb dX1_remember_31 (by decide) ?_
      exact J35 (va_up rows_springs 0 u2.1) (va_up rows_lost 0 u2.2.1) (va_up rows_sp 0 u2.2.2) (hist_next + 1) hf _ _ _ ⟨hP, hD⟩ hS (lv_sub hl [0] rfl)
  · rw [hj] at hf
    refine va_aldq hx hb hE.1 hP 1 2 rfl rfl (ix_in hc1) dX1_remember_8 ?_
    refine W.eq (g2 := F0 m 9 ls [.ref (a_rows 1)]) (by rw [hj]; rfl) ?_
    refine lv_aload_n hx hb dX1_remember_9 rfl (lv_at hl 1 rfl) ?_
    obtain ⟨u3, hu3, hf⟩ := bd_some hf
    refine cl_vN (As := [.ref a_rain]) (rest := []) ⟨hx, hb, hml, hown, hts⟩ (c_X4_become l D cI cZ cR (a_rows 1) a_rain a_rain_spoons (a_rows_sp 1) a_house a_house rain_springs rain_lost (rows_springs 1) (rows_lost 1) rain_spoons (rows_sp 1)  u3 hu3) (cw_X1_remember_X4_become_24 hE hts) hE hP hD hS hA [22, 4, 23, 5] rfl rfl [a_rain, (a_rows 1), a_rain_spoons, (a_rows_sp 1)] rfl rfl 4 4 rfl rfl rfl hl.1 rfl (Nat.le_of_ble_eq_true rfl) dX1_remember_10 ⟨Nat.zero_le _, Nat.zero_le _⟩ (fun H locs hP hD hS => ?_)
    have hPD : PD D A [(a_hist, .inr (1, [.ref a_hist_rows, .int hist_known, .int hist_next])), (a_hist_rows, .inl (cR, 10, .inr (.inr (.inr (.inr (fun j => some (a_rows j))))))), (a_rows 0, .inr (4, [.ref a_house, .ref (a_rows_sp 0), .int (rows_springs 0), .int (rows_lost 0)])), (a_rows_sp 0, .inl (cI, 49, .inl (rows_sp 0))), (a_rows 1, .inr (4, [.ref a_house, .ref (a_rows_sp 1), .int u3.1, .int u3.2.1])), (a_rows_sp 1, .inl (cI, 49, .inl u3.2.2)), (a_rows 2, .inr (4, [.ref a_house, .ref (a_rows_sp 2), .int (rows_springs 2), .int (rows_lost 2)])), (a_rows_sp 2, .inl (cI, 49, .inl (rows_sp 2))), (a_rows 3, .inr (4, [.ref a_house, .ref (a_rows_sp 3), .int (rows_springs 3), .int (rows_lost 3)])), (a_rows_sp 3, .inl (cI, 49, .inl (rows_sp 3))), (a_rows 4, .inr (4, [.ref a_house, .ref (a_rows_sp 4), .int (rows_springs 4), .int (rows_lost 4)])), (a_rows_sp 4, .inl (cI, 49, .inl (rows_sp 4))), (a_rows 5, .inr (4, [.ref a_house, .ref (a_rows_sp 5), .int (rows_springs 5), .int (rows_lost 5)])), (a_rows_sp 5, .inl (cI, 49, .inl (rows_sp 5))), (a_rows 6, .inr (4, [.ref a_house, .ref (a_rows_sp 6), .int (rows_springs 6), .int (rows_lost 6)])), (a_rows_sp 6, .inl (cI, 49, .inl (rows_sp 6))), (a_rows 7, .inr (4, [.ref a_house, .ref (a_rows_sp 7), .int (rows_springs 7), .int (rows_lost 7)])), (a_rows_sp 7, .inl (cI, 49, .inl (rows_sp 7))), (a_rows 8, .inr (4, [.ref a_house, .ref (a_rows_sp 8), .int (rows_springs 8), .int (rows_lost 8)])), (a_rows_sp 8, .inl (cI, 49, .inl (rows_sp 8))), (a_rows 9, .inr (4, [.ref a_house, .ref (a_rows_sp 9), .int (rows_springs 9), .int (rows_lost 9)])), (a_rows_sp 9, .inl (cI, 49, .inl (rows_sp 9))), (a_rain, .inr (4, [.ref a_house, .ref a_rain_spoons, .int rain_springs, .int rain_lost])), (a_rain_spoons, .inl (cI, 49, .inl rain_spoons))] H := ⟨hP, hD⟩
    obtain ⟨hP, hD⟩ := hPD
    refine lv_aload_n hx hb dX1_remember_13 rfl (lv_at hl 0 rfl) ?_
    refine lv_aload_n hx hb dX1_remember_14 rfl (lv_at hl 0 rfl) ?_
    refine va_get (D := D) (ci := 1) (v := .int hist_next) (C := RX1) (T := TX1) (N := 3) hx hb hts hiX1_remember_1 hown hE.1 hP 0 rfl rfl 2 (by decide) fL20 (fun _ h9 => h9) rfl dX1_remember_15 ?_
    refine lv_iconst (v := 1) hx hb dX1_remember_18 (by decide) ?_
    refine lv_iadd hx hb dX1_remember_19 ?_
    refine lv_bipush (v := 10) hx hb dX1_remember_20 (by decide) ?_
    refine lv_icmp_ge (tgt := 34) hx hb dX1_remember_22 (by decide) (fun hc4 => ?_) (fun hc4 => ?_)
    · have hf := if_t hf hc4
      refine lv_iconst (v := 0) hx hb dX1_remember_34 (by decide) ?_
      exact J35 (va_up rows_springs 1 u3.1) (va_up rows_lost 1 u3.2.1) (va_up rows_sp 1 u3.2.2) 0 hf _ _ _ ⟨hP, hD⟩ hS (lv_sub hl [0] rfl)
    · have hf := if_f hf hc4
      refine lv_aload_n hx hb dX1_remember_25 rfl (lv_at hl 0 rfl) ?_
      refine va_get (D := D) (ci := 1) (v := .int hist_next) (C := RX1) (T := TX1) (N := 3) hx hb hts hiX1_remember_1 hown hE.1 hP 0 rfl rfl 2 (by decide) fL20 (fun _ h9 => h9) rfl dX1_remember_26 ?_
      refine lv_iconst (v := 1) hx hb dX1_remember_29 (by decide) ?_
      refine lv_iadd hx hb dX1_remember_30 ?_
      refine lv_goto (tgt := 35) hx hb dX1_remember_31 (by decide) ?_
      exact J35 (va_up rows_springs 1 u3.1) (va_up rows_lost 1 u3.2.1) (va_up rows_sp 1 u3.2.2) (hist_next + 1) hf _ _ _ ⟨hP, hD⟩ hS (lv_sub hl [0] rfl)
  · rw [hj] at hf
    refine va_aldq hx hb hE.1 hP 1 2 rfl rfl (ix_in hc1) dX1_remember_8 ?_
    refine W.eq (g2 := F0 m 9 ls [.ref (a_rows 2)]) (by rw [hj]; rfl) ?_
    refine lv_aload_n hx hb dX1_remember_9 rfl (lv_at hl 1 rfl) ?_
    obtain ⟨u4, hu4, hf⟩ := bd_some hf
    refine cl_vN (As := [.ref a_rain]) (rest := []) ⟨hx, hb, hml, hown, hts⟩ (c_X4_become l D cI cZ cR (a_rows 2) a_rain a_rain_spoons (a_rows_sp 2) a_house a_house rain_springs rain_lost (rows_springs 2) (rows_lost 2) rain_spoons (rows_sp 2)  u4 hu4) (cw_X1_remember_X4_become_24 hE hts) hE hP hD hS hA [22, 6, 23, 7] rfl rfl [a_rain, (a_rows 2), a_rain_spoons, (a_rows_sp 2)] rfl rfl 6 4 rfl rfl rfl hl.1 rfl (Nat.le_of_ble_eq_true rfl) dX1_remember_10 ⟨Nat.zero_le _, Nat.zero_le _⟩ (fun H locs hP hD hS => ?_)
    have hPD : PD D A [(a_hist, .inr (1, [.ref a_hist_rows, .int hist_known, .int hist_next])), (a_hist_rows, .inl (cR, 10, .inr (.inr (.inr (.inr (fun j => some (a_rows j))))))), (a_rows 0, .inr (4, [.ref a_house, .ref (a_rows_sp 0), .int (rows_springs 0), .int (rows_lost 0)])), (a_rows_sp 0, .inl (cI, 49, .inl (rows_sp 0))), (a_rows 1, .inr (4, [.ref a_house, .ref (a_rows_sp 1), .int (rows_springs 1), .int (rows_lost 1)])), (a_rows_sp 1, .inl (cI, 49, .inl (rows_sp 1))), (a_rows 2, .inr (4, [.ref a_house, .ref (a_rows_sp 2), .int u4.1, .int u4.2.1])), (a_rows_sp 2, .inl (cI, 49, .inl u4.2.2)), (a_rows 3, .inr (4, [.ref a_house, .ref (a_rows_sp 3), .int (rows_springs 3), .int (rows_lost 3)])), (a_rows_sp 3, .inl (cI, 49, .inl (rows_sp 3))), (a_rows 4, .inr (4, [.ref a_house, .ref (a_rows_sp 4), .int (rows_springs 4), .int (rows_lost 4)])), (a_rows_sp 4, .inl (cI, 49, .inl (rows_sp 4))), (a_rows 5, .inr (4, [.ref a_house, .ref (a_rows_sp 5), .int (rows_springs 5), .int (rows_lost 5)])), (a_rows_sp 5, .inl (cI, 49, .inl (rows_sp 5))), (a_rows 6, .inr (4, [.ref a_house, .ref (a_rows_sp 6), .int (rows_springs 6), .int (rows_lost 6)])), (a_rows_sp 6, .inl (cI, 49, .inl (rows_sp 6))), (a_rows 7, .inr (4, [.ref a_house, .ref (a_rows_sp 7), .int (rows_springs 7), .int (rows_lost 7)])), (a_rows_sp 7, .inl (cI, 49, .inl (rows_sp 7))), (a_rows 8, .inr (4, [.ref a_house, .ref (a_rows_sp 8), .int (rows_springs 8), .int (rows_lost 8)])), (a_rows_sp 8, .inl (cI, 49, .inl (rows_sp 8))), (a_rows 9, .inr (4, [.ref a_house, .ref (a_rows_sp 9), .int (rows_springs 9), .int (rows_lost 9)])), (a_rows_sp 9, .inl (cI, 49, .inl (rows_sp 9))), (a_rain, .inr (4, [.ref a_house, .ref a_rain_spoons, .int rain_springs, .int rain_lost])), (a_rain_spoons, .inl (cI, 49, .inl rain_spoons))] H := ⟨hP, hD⟩
    obtain ⟨hP, hD⟩ := hPD
    refine lv_aload_n hx hb dX1_remember_13 rfl (lv_at hl 0 rfl) ?_
    refine lv_aload_n hx hb dX1_remember_14 rfl (lv_at hl 0 rfl) ?_
    refine va_get (D := D) (ci := 1) (v := .int hist_next) (C := RX1) (T := TX1) (N := 3) hx hb hts hiX1_remember_1 hown hE.1 hP 0 rfl rfl 2 (by decide) fL20 (fun _ h9 => h9) rfl dX1_remember_15 ?_
    refine lv_iconst (v := 1) hx hb dX1_remember_18 (by decide) ?_
    refine lv_iadd hx hb dX1_remember_19 ?_
    refine lv_bipush (v := 10) hx hb dX1_remember_20 (by decide) ?_
    refine lv_icmp_ge (tgt := 34) hx hb dX1_remember_22 (by decide) (fun hc5 => ?_) (fun hc5 => ?_)
    · have hf := if_t hf hc5
      refine lv_iconst (v := 0) hx hb dX1_remember_34 (by decide) ?_
      exact J35 (va_up rows_springs 2 u4.1) (va_up rows_lost 2 u4.2.1) (va_up rows_sp 2 u4.2.2) 0 hf _ _ _ ⟨hP, hD⟩ hS (lv_sub hl [0] rfl)
    · have hf := if_f hf hc5
      refine lv_aload_n hx hb dX1_remember_25 rfl (lv_at hl 0 rfl) ?_
      refine va_get (D := D) (ci := 1) (v := .int hist_next) (C := RX1) (T := TX1) (N := 3) hx hb hts hiX1_remember_1 hown hE.1 hP 0 rfl rfl 2 (by decide) fL20 (fun _ h9 => h9) rfl dX1_remember_26 ?_
      refine lv_iconst (v := 1) hx hb dX1_remember_29 (by decide) ?_
      refine lv_iadd hx hb dX1_remember_30 ?_
      refine lv_goto (tgt := 35) hx hb dX1_remember_31 (by decide) ?_
      exact J35 (va_up rows_springs 2 u4.1) (va_up rows_lost 2 u4.2.1) (va_up rows_sp 2 u4.2.2) (hist_next + 1) hf _ _ _ ⟨hP, hD⟩ hS (lv_sub hl [0] rfl)
  · rw [hj] at hf
    refine va_aldq hx hb hE.1 hP 1 2 rfl rfl (ix_in hc1) dX1_remember_8 ?_
    refine W.eq (g2 := F0 m 9 ls [.ref (a_rows 3)]) (by rw [hj]; rfl) ?_
    refine lv_aload_n hx hb dX1_remember_9 rfl (lv_at hl 1 rfl) ?_
    obtain ⟨u5, hu5, hf⟩ := bd_some hf
    refine cl_vN (As := [.ref a_rain]) (rest := []) ⟨hx, hb, hml, hown, hts⟩ (c_X4_become l D cI cZ cR (a_rows 3) a_rain a_rain_spoons (a_rows_sp 3) a_house a_house rain_springs rain_lost (rows_springs 3) (rows_lost 3) rain_spoons (rows_sp 3)  u5 hu5) (cw_X1_remember_X4_become_24 hE hts) hE hP hD hS hA [22, 8, 23, 9] rfl rfl [a_rain, (a_rows 3), a_rain_spoons, (a_rows_sp 3)] rfl rfl 8 4 rfl rfl rfl hl.1 rfl (Nat.le_of_ble_eq_true rfl) dX1_remember_10 ⟨Nat.zero_le _, Nat.zero_le _⟩ (fun H locs hP hD hS => ?_)
    have hPD : PD D A [(a_hist, .inr (1, [.ref a_hist_rows, .int hist_known, .int hist_next])), (a_hist_rows, .inl (cR, 10, .inr (.inr (.inr (.inr (fun j => some (a_rows j))))))), (a_rows 0, .inr (4, [.ref a_house, .ref (a_rows_sp 0), .int (rows_springs 0), .int (rows_lost 0)])), (a_rows_sp 0, .inl (cI, 49, .inl (rows_sp 0))), (a_rows 1, .inr (4, [.ref a_house, .ref (a_rows_sp 1), .int (rows_springs 1), .int (rows_lost 1)])), (a_rows_sp 1, .inl (cI, 49, .inl (rows_sp 1))), (a_rows 2, .inr (4, [.ref a_house, .ref (a_rows_sp 2), .int (rows_springs 2), .int (rows_lost 2)])), (a_rows_sp 2, .inl (cI, 49, .inl (rows_sp 2))), (a_rows 3, .inr (4, [.ref a_house, .ref (a_rows_sp 3), .int u5.1, .int u5.2.1])), (a_rows_sp 3, .inl (cI, 49, .inl u5.2.2)), (a_rows 4, .inr (4, [.ref a_house, .ref (a_rows_sp 4), .int (rows_springs 4), .int (rows_lost 4)])), (a_rows_sp 4, .inl (cI, 49, .inl (rows_sp 4))), (a_rows 5, .inr (4, [.ref a_house, .ref (a_rows_sp 5), .int (rows_springs 5), .int (rows_lost 5)])), (a_rows_sp 5, .inl (cI, 49, .inl (rows_sp 5))), (a_rows 6, .inr (4, [.ref a_house, .ref (a_rows_sp 6), .int (rows_springs 6), .int (rows_lost 6)])), (a_rows_sp 6, .inl (cI, 49, .inl (rows_sp 6))), (a_rows 7, .inr (4, [.ref a_house, .ref (a_rows_sp 7), .int (rows_springs 7), .int (rows_lost 7)])), (a_rows_sp 7, .inl (cI, 49, .inl (rows_sp 7))), (a_rows 8, .inr (4, [.ref a_house, .ref (a_rows_sp 8), .int (rows_springs 8), .int (rows_lost 8)])), (a_rows_sp 8, .inl (cI, 49, .inl (rows_sp 8))), (a_rows 9, .inr (4, [.ref a_house, .ref (a_rows_sp 9), .int (rows_springs 9), .int (rows_lost 9)])), (a_rows_sp 9, .inl (cI, 49, .inl (rows_sp 9))), (a_rain, .inr (4, [.ref a_house, .ref a_rain_spoons, .int rain_springs, .int rain_lost])), (a_rain_spoons, .inl (cI, 49, .inl rain_spoons))] H := ⟨hP, hD⟩
    obtain ⟨hP, hD⟩ := hPD
    refine lv_aload_n hx hb dX1_remember_13 rfl (lv_at hl 0 rfl) ?_
    refine lv_aload_n hx hb dX1_remember_14 rfl (lv_at hl 0 rfl) ?_
    refine va_get (D := D) (ci := 1) (v := .int hist_next) (C := RX1) (T := TX1) (N := 3) hx hb hts hiX1_remember_1 hown hE.1 hP 0 rfl rfl 2 (by decide) fL20 (fun _ h9 => h9) rfl dX1_remember_15 ?_
    refine lv_iconst (v := 1) hx hb dX1_remember_18 (by decide) ?_
    refine lv_iadd hx hb dX1_remember_19 ?_
    refine lv_bipush (v := 10) hx hb dX1_remember_20 (by decide) ?_
    refine lv_icmp_ge (tgt := 34) hx hb dX1_remember_22 (by decide) (fun hc6 => ?_) (fun hc6 => ?_)
    · have hf := if_t hf hc6
      refine lv_iconst (v := 0) hx hb dX1_remember_34 (by decide) ?_
      exact J35 (va_up rows_springs 3 u5.1) (va_up rows_lost 3 u5.2.1) (va_up rows_sp 3 u5.2.2) 0 hf _ _ _ ⟨hP, hD⟩ hS (lv_sub hl [0] rfl)
    · have hf := if_f hf hc6
      refine lv_aload_n hx hb dX1_remember_25 rfl (lv_at hl 0 rfl) ?_
      refine va_get (D := D) (ci := 1) (v := .int hist_next) (C := RX1) (T := TX1) (N := 3) hx hb hts hiX1_remember_1 hown hE.1 hP 0 rfl rfl 2 (by decide) fL20 (fun _ h9 => h9) rfl dX1_remember_26 ?_
      refine lv_iconst (v := 1) hx hb dX1_remember_29 (by decide) ?_
      refine lv_iadd hx hb dX1_remember_30 ?_
      refine lv_goto (tgt := 35) hx hb dX1_remember_31 (by decide) ?_
      exact J35 (va_up rows_springs 3 u5.1) (va_up rows_lost 3 u5.2.1) (va_up rows_sp 3 u5.2.2) (hist_next + 1) hf _ _ _ ⟨hP, hD⟩ hS (lv_sub hl [0] rfl)
  · rw [hj] at hf
    refine va_aldq hx hb hE.1 hP 1 2 rfl rfl (ix_in hc1) dX1_remember_8 ?_
    refine W.eq (g2 := F0 m 9 ls [.ref (a_rows 4)]) (by rw [hj]; rfl) ?_
    refine lv_aload_n hx hb dX1_remember_9 rfl (lv_at hl 1 rfl) ?_
    obtain ⟨u6, hu6, hf⟩ := bd_some hf
    refine cl_vN (As := [.ref a_rain]) (rest := []) ⟨hx, hb, hml, hown, hts⟩ (c_X4_become l D cI cZ cR (a_rows 4) a_rain a_rain_spoons (a_rows_sp 4) a_house a_house rain_springs rain_lost (rows_springs 4) (rows_lost 4) rain_spoons (rows_sp 4)  u6 hu6) (cw_X1_remember_X4_become_24 hE hts) hE hP hD hS hA [22, 10, 23, 11] rfl rfl [a_rain, (a_rows 4), a_rain_spoons, (a_rows_sp 4)] rfl rfl 10 4 rfl rfl rfl hl.1 rfl (Nat.le_of_ble_eq_true rfl) dX1_remember_10 ⟨Nat.zero_le _, Nat.zero_le _⟩ (fun H locs hP hD hS => ?_)
    have hPD : PD D A [(a_hist, .inr (1, [.ref a_hist_rows, .int hist_known, .int hist_next])), (a_hist_rows, .inl (cR, 10, .inr (.inr (.inr (.inr (fun j => some (a_rows j))))))), (a_rows 0, .inr (4, [.ref a_house, .ref (a_rows_sp 0), .int (rows_springs 0), .int (rows_lost 0)])), (a_rows_sp 0, .inl (cI, 49, .inl (rows_sp 0))), (a_rows 1, .inr (4, [.ref a_house, .ref (a_rows_sp 1), .int (rows_springs 1), .int (rows_lost 1)])), (a_rows_sp 1, .inl (cI, 49, .inl (rows_sp 1))), (a_rows 2, .inr (4, [.ref a_house, .ref (a_rows_sp 2), .int (rows_springs 2), .int (rows_lost 2)])), (a_rows_sp 2, .inl (cI, 49, .inl (rows_sp 2))), (a_rows 3, .inr (4, [.ref a_house, .ref (a_rows_sp 3), .int (rows_springs 3), .int (rows_lost 3)])), (a_rows_sp 3, .inl (cI, 49, .inl (rows_sp 3))), (a_rows 4, .inr (4, [.ref a_house, .ref (a_rows_sp 4), .int u6.1, .int u6.2.1])), (a_rows_sp 4, .inl (cI, 49, .inl u6.2.2)), (a_rows 5, .inr (4, [.ref a_house, .ref (a_rows_sp 5), .int (rows_springs 5), .int (rows_lost 5)])), (a_rows_sp 5, .inl (cI, 49, .inl (rows_sp 5))), (a_rows 6, .inr (4, [.ref a_house, .ref (a_rows_sp 6), .int (rows_springs 6), .int (rows_lost 6)])), (a_rows_sp 6, .inl (cI, 49, .inl (rows_sp 6))), (a_rows 7, .inr (4, [.ref a_house, .ref (a_rows_sp 7), .int (rows_springs 7), .int (rows_lost 7)])), (a_rows_sp 7, .inl (cI, 49, .inl (rows_sp 7))), (a_rows 8, .inr (4, [.ref a_house, .ref (a_rows_sp 8), .int (rows_springs 8), .int (rows_lost 8)])), (a_rows_sp 8, .inl (cI, 49, .inl (rows_sp 8))), (a_rows 9, .inr (4, [.ref a_house, .ref (a_rows_sp 9), .int (rows_springs 9), .int (rows_lost 9)])), (a_rows_sp 9, .inl (cI, 49, .inl (rows_sp 9))), (a_rain, .inr (4, [.ref a_house, .ref a_rain_spoons, .int rain_springs, .int rain_lost])), (a_rain_spoons, .inl (cI, 49, .inl rain_spoons))] H := ⟨hP, hD⟩
    obtain ⟨hP, hD⟩ := hPD
    refine lv_aload_n hx hb dX1_remember_13 rfl (lv_at hl 0 rfl) ?_
    refine lv_aload_n hx hb dX1_remember_14 rfl (lv_at hl 0 rfl) ?_
    refine va_get (D := D) (ci := 1) (v := .int hist_next) (C := RX1) (T := TX1) (N := 3) hx hb hts hiX1_remember_1 hown hE.1 hP 0 rfl rfl 2 (by decide) fL20 (fun _ h9 => h9) rfl dX1_remember_15 ?_
    refine lv_iconst (v := 1) hx hb dX1_remember_18 (by decide) ?_
    refine lv_iadd hx hb dX1_remember_19 ?_
    refine lv_bipush (v := 10) hx hb dX1_remember_20 (by decide) ?_
    refine lv_icmp_ge (tgt := 34) hx hb dX1_remember_22 (by decide) (fun hc7 => ?_) (fun hc7 => ?_)
    · have hf := if_t hf hc7
      refine lv_iconst (v := 0) hx hb dX1_remember_34 (by decide) ?_
      exact J35 (va_up rows_springs 4 u6.1) (va_up rows_lost 4 u6.2.1) (va_up rows_sp 4 u6.2.2) 0 hf _ _ _ ⟨hP, hD⟩ hS (lv_sub hl [0] rfl)
    · have hf := if_f hf hc7
      refine lv_aload_n hx hb dX1_remember_25 rfl (lv_at hl 0 rfl) ?_
      refine va_get (D := D) (ci := 1) (v := .int hist_next) (C := RX1) (T := TX1) (N := 3) hx hb hts hiX1_remember_1 hown hE.1 hP 0 rfl rfl 2 (by decide) fL20 (fun _ h9 => h9) rfl dX1_remember_26 ?_
      refine lv_iconst (v := 1) hx hb dX1_remember_29 (by decide) ?_
      refine lv_iadd hx hb dX1_remember_30 ?_
      refine lv_goto (tgt := 35) hx hb dX1_remember_31 (by decide) ?_
      exact J35 (va_up rows_springs 4 u6.1) (va_up rows_lost 4 u6.2.1) (va_up rows_sp 4 u6.2.2) (hist_next + 1) hf _ _ _ ⟨hP, hD⟩ hS (lv_sub hl [0] rfl)
  · rw [hj] at hf
    refine va_aldq hx hb hE.1 hP 1 2 rfl rfl (ix_in hc1) dX1_remember_8 ?_
    refine W.eq (g2 := F0 m 9 ls [.ref (a_rows 5)]) (by rw [hj]; rfl) ?_
    refine lv_aload_n hx hb dX1_remember_9 rfl (lv_at hl 1 rfl) ?_
    obtain ⟨u7, hu7, hf⟩ := bd_some hf
    refine cl_vN (As := [.ref a_rain]) (rest := []) ⟨hx, hb, hml, hown, hts⟩ (c_X4_become l D cI cZ cR (a_rows 5) a_rain a_rain_spoons (a_rows_sp 5) a_house a_house rain_springs rain_lost (rows_springs 5) (rows_lost 5) rain_spoons (rows_sp 5)  u7 hu7) (cw_X1_remember_X4_become_24 hE hts) hE hP hD hS hA [22, 12, 23, 13] rfl rfl [a_rain, (a_rows 5), a_rain_spoons, (a_rows_sp 5)] rfl rfl 12 4 rfl rfl rfl hl.1 rfl (Nat.le_of_ble_eq_true rfl) dX1_remember_10 ⟨Nat.zero_le _, Nat.zero_le _⟩ (fun H locs hP hD hS => ?_)
    have hPD : PD D A [(a_hist, .inr (1, [.ref a_hist_rows, .int hist_known, .int hist_next])), (a_hist_rows, .inl (cR, 10, .inr (.inr (.inr (.inr (fun j => some (a_rows j))))))), (a_rows 0, .inr (4, [.ref a_house, .ref (a_rows_sp 0), .int (rows_springs 0), .int (rows_lost 0)])), (a_rows_sp 0, .inl (cI, 49, .inl (rows_sp 0))), (a_rows 1, .inr (4, [.ref a_house, .ref (a_rows_sp 1), .int (rows_springs 1), .int (rows_lost 1)])), (a_rows_sp 1, .inl (cI, 49, .inl (rows_sp 1))), (a_rows 2, .inr (4, [.ref a_house, .ref (a_rows_sp 2), .int (rows_springs 2), .int (rows_lost 2)])), (a_rows_sp 2, .inl (cI, 49, .inl (rows_sp 2))), (a_rows 3, .inr (4, [.ref a_house, .ref (a_rows_sp 3), .int (rows_springs 3), .int (rows_lost 3)])), (a_rows_sp 3, .inl (cI, 49, .inl (rows_sp 3))), (a_rows 4, .inr (4, [.ref a_house, .ref (a_rows_sp 4), .int (rows_springs 4), .int (rows_lost 4)])), (a_rows_sp 4, .inl (cI, 49, .inl (rows_sp 4))), (a_rows 5, .inr (4, [.ref a_house, .ref (a_rows_sp 5), .int u7.1, .int u7.2.1])), (a_rows_sp 5, .inl (cI, 49, .inl u7.2.2)), (a_rows 6, .inr (4, [.ref a_house, .ref (a_rows_sp 6), .int (rows_springs 6), .int (rows_lost 6)])), (a_rows_sp 6, .inl (cI, 49, .inl (rows_sp 6))), (a_rows 7, .inr (4, [.ref a_house, .ref (a_rows_sp 7), .int (rows_springs 7), .int (rows_lost 7)])), (a_rows_sp 7, .inl (cI, 49, .inl (rows_sp 7))), (a_rows 8, .inr (4, [.ref a_house, .ref (a_rows_sp 8), .int (rows_springs 8), .int (rows_lost 8)])), (a_rows_sp 8, .inl (cI, 49, .inl (rows_sp 8))), (a_rows 9, .inr (4, [.ref a_house, .ref (a_rows_sp 9), .int (rows_springs 9), .int (rows_lost 9)])), (a_rows_sp 9, .inl (cI, 49, .inl (rows_sp 9))), (a_rain, .inr (4, [.ref a_house, .ref a_rain_spoons, .int rain_springs, .int rain_lost])), (a_rain_spoons, .inl (cI, 49, .inl rain_spoons))] H := ⟨hP, hD⟩
    obtain ⟨hP, hD⟩ := hPD
    refine lv_aload_n hx hb dX1_remember_13 rfl (lv_at hl 0 rfl) ?_
    refine lv_aload_n hx hb dX1_remember_14 rfl (lv_at hl 0 rfl) ?_
    refine va_get (D := D) (ci := 1) (v := .int hist_next) (C := RX1) (T := TX1) (N := 3) hx hb hts hiX1_remember_1 hown hE.1 hP 0 rfl rfl 2 (by decide) fL20 (fun _ h9 => h9) rfl dX1_remember_15 ?_
    refine lv_iconst (v := 1) hx hb dX1_remember_18 (by decide) ?_
    refine lv_iadd hx hb dX1_remember_19 ?_
    refine lv_bipush (v := 10) hx hb dX1_remember_20 (by decide) ?_
    refine lv_icmp_ge (tgt := 34) hx hb dX1_remember_22 (by decide) (fun hc8 => ?_) (fun hc8 => ?_)
    · have hf := if_t hf hc8
      refine lv_iconst (v := 0) hx hb dX1_remember_34 (by decide) ?_
      exact J35 (va_up rows_springs 5 u7.1) (va_up rows_lost 5 u7.2.1) (va_up rows_sp 5 u7.2.2) 0 hf _ _ _ ⟨hP, hD⟩ hS (lv_sub hl [0] rfl)
    · have hf := if_f hf hc8
      refine lv_aload_n hx hb dX1_remember_25 rfl (lv_at hl 0 rfl) ?_
      refine va_get (D := D) (ci := 1) (v := .int hist_next) (C := RX1) (T := TX1) (N := 3) hx hb hts hiX1_remember_1 hown hE.1 hP 0 rfl rfl 2 (by decide) fL20 (fun _ h9 => h9) rfl dX1_remember_26 ?_
      refine lv_iconst (v := 1) hx hb dX1_remember_29 (by decide) ?_
      refine lv_iadd hx hb dX1_remember_30 ?_
      refine lv_goto (tgt := 35) hx hb dX1_remember_31 (by decide) ?_
      exact J35 (va_up rows_springs 5 u7.1) (va_up rows_lost 5 u7.2.1) (va_up rows_sp 5 u7.2.2) (hist_next + 1) hf _ _ _ ⟨hP, hD⟩ hS (lv_sub hl [0] rfl)
  · rw [hj] at hf
    refine va_aldq hx hb hE.1 hP 1 2 rfl rfl (ix_in hc1) dX1_remember_8 ?_
    refine W.eq (g2 := F0 m 9 ls [.ref (a_rows 6)]) (by rw [hj]; rfl) ?_
    refine lv_aload_n hx hb dX1_remember_9 rfl (lv_at hl 1 rfl) ?_
    obtain ⟨u8, hu8, hf⟩ := bd_some hf
    refine cl_vN (As := [.ref a_rain]) (rest := []) ⟨hx, hb, hml, hown, hts⟩ (c_X4_become l D cI cZ cR (a_rows 6) a_rain a_rain_spoons (a_rows_sp 6) a_house a_house rain_springs rain_lost (rows_springs 6) (rows_lost 6) rain_spoons (rows_sp 6)  u8 hu8) (cw_X1_remember_X4_become_24 hE hts) hE hP hD hS hA [22, 14, 23, 15] rfl rfl [a_rain, (a_rows 6), a_rain_spoons, (a_rows_sp 6)] rfl rfl 14 4 rfl rfl rfl hl.1 rfl (Nat.le_of_ble_eq_true rfl) dX1_remember_10 ⟨Nat.zero_le _, Nat.zero_le _⟩ (fun H locs hP hD hS => ?_)
    have hPD : PD D A [(a_hist, .inr (1, [.ref a_hist_rows, .int hist_known, .int hist_next])), (a_hist_rows, .inl (cR, 10, .inr (.inr (.inr (.inr (fun j => some (a_rows j))))))), (a_rows 0, .inr (4, [.ref a_house, .ref (a_rows_sp 0), .int (rows_springs 0), .int (rows_lost 0)])), (a_rows_sp 0, .inl (cI, 49, .inl (rows_sp 0))), (a_rows 1, .inr (4, [.ref a_house, .ref (a_rows_sp 1), .int (rows_springs 1), .int (rows_lost 1)])), (a_rows_sp 1, .inl (cI, 49, .inl (rows_sp 1))), (a_rows 2, .inr (4, [.ref a_house, .ref (a_rows_sp 2), .int (rows_springs 2), .int (rows_lost 2)])), (a_rows_sp 2, .inl (cI, 49, .inl (rows_sp 2))), (a_rows 3, .inr (4, [.ref a_house, .ref (a_rows_sp 3), .int (rows_springs 3), .int (rows_lost 3)])), (a_rows_sp 3, .inl (cI, 49, .inl (rows_sp 3))), (a_rows 4, .inr (4, [.ref a_house, .ref (a_rows_sp 4), .int (rows_springs 4), .int (rows_lost 4)])), (a_rows_sp 4, .inl (cI, 49, .inl (rows_sp 4))), (a_rows 5, .inr (4, [.ref a_house, .ref (a_rows_sp 5), .int (rows_springs 5), .int (rows_lost 5)])), (a_rows_sp 5, .inl (cI, 49, .inl (rows_sp 5))), (a_rows 6, .inr (4, [.ref a_house, .ref (a_rows_sp 6), .int u8.1, .int u8.2.1])), (a_rows_sp 6, .inl (cI, 49, .inl u8.2.2)), (a_rows 7, .inr (4, [.ref a_house, .ref (a_rows_sp 7), .int (rows_springs 7), .int (rows_lost 7)])), (a_rows_sp 7, .inl (cI, 49, .inl (rows_sp 7))), (a_rows 8, .inr (4, [.ref a_house, .ref (a_rows_sp 8), .int (rows_springs 8), .int (rows_lost 8)])), (a_rows_sp 8, .inl (cI, 49, .inl (rows_sp 8))), (a_rows 9, .inr (4, [.ref a_house, .ref (a_rows_sp 9), .int (rows_springs 9), .int (rows_lost 9)])), (a_rows_sp 9, .inl (cI, 49, .inl (rows_sp 9))), (a_rain, .inr (4, [.ref a_house, .ref a_rain_spoons, .int rain_springs, .int rain_lost])), (a_rain_spoons, .inl (cI, 49, .inl rain_spoons))] H := ⟨hP, hD⟩
    obtain ⟨hP, hD⟩ := hPD
    refine lv_aload_n hx hb dX1_remember_13 rfl (lv_at hl 0 rfl) ?_
    refine lv_aload_n hx hb dX1_remember_14 rfl (lv_at hl 0 rfl) ?_
    refine va_get (D := D) (ci := 1) (v := .int hist_next) (C := RX1) (T := TX1) (N := 3) hx hb hts hiX1_remember_1 hown hE.1 hP 0 rfl rfl 2 (by decide) fL20 (fun _ h9 => h9) rfl dX1_remember_15 ?_
    refine lv_iconst (v := 1) hx hb dX1_remember_18 (by decide) ?_
    refine lv_iadd hx hb dX1_remember_19 ?_
    refine lv_bipush (v := 10) hx hb dX1_remember_20 (by decide) ?_
    refine lv_icmp_ge (tgt := 34) hx hb dX1_remember_22 (by decide) (fun hc9 => ?_) (fun hc9 => ?_)
    · have hf := if_t hf hc9
      refine lv_iconst (v := 0) hx hb dX1_remember_34 (by decide) ?_
      exact J35 (va_up rows_springs 6 u8.1) (va_up rows_lost 6 u8.2.1) (va_up rows_sp 6 u8.2.2) 0 hf _ _ _ ⟨hP, hD⟩ hS (lv_sub hl [0] rfl)
    · have hf := if_f hf hc9
      refine lv_aload_n hx hb dX1_remember_25 rfl (lv_at hl 0 rfl) ?_
      refine va_get (D := D) (ci := 1) (v := .int hist_next) (C := RX1) (T := TX1) (N := 3) hx hb hts hiX1_remember_1 hown hE.1 hP 0 rfl rfl 2 (by decide) fL20 (fun _ h9 => h9) rfl dX1_remember_26 ?_
      refine lv_iconst (v := 1) hx hb dX1_remember_29 (by decide) ?_
      refine lv_iadd hx hb dX1_remember_30 ?_
      refine lv_goto (tgt := 35) hx hb dX1_remember_31 (by decide) ?_
      exact J35 (va_up rows_springs 6 u8.1) (va_up rows_lost 6 u8.2.1) (va_up rows_sp 6 u8.2.2) (hist_next + 1) hf _ _ _ ⟨hP, hD⟩ hS (lv_sub hl [0] rfl)
  · rw [hj] at hf
    refine va_aldq hx hb hE.1 hP 1 2 rfl rfl (ix_in hc1) dX1_remember_8 ?_
    refine W.eq (g2 := F0 m 9 ls [.ref (a_rows 7)]) (by rw [hj]; rfl) ?_
    refine lv_aload_n hx hb dX1_remember_9 rfl (lv_at hl 1 rfl) ?_
    obtain ⟨u9, hu9, hf⟩ := bd_some hf
    refine cl_vN (As := [.ref a_rain]) (rest := []) ⟨hx, hb, hml, hown, hts⟩ (c_X4_become l D cI cZ cR (a_rows 7) a_rain a_rain_spoons (a_rows_sp 7) a_house a_house rain_springs rain_lost (rows_springs 7) (rows_lost 7) rain_spoons (rows_sp 7)  u9 hu9) (cw_X1_remember_X4_become_24 hE hts) hE hP hD hS hA [22, 16, 23, 17] rfl rfl [a_rain, (a_rows 7), a_rain_spoons, (a_rows_sp 7)] rfl rfl 16 4 rfl rfl rfl hl.1 rfl (Nat.le_of_ble_eq_true rfl) dX1_remember_10 ⟨Nat.zero_le _, Nat.zero_le _⟩ (fun H locs hP hD hS => ?_)
    have hPD : PD D A [(a_hist, .inr (1, [.ref a_hist_rows, .int hist_known, .int hist_next])), (a_hist_rows, .inl (cR, 10, .inr (.inr (.inr (.inr (fun j => some (a_rows j))))))), (a_rows 0, .inr (4, [.ref a_house, .ref (a_rows_sp 0), .int (rows_springs 0), .int (rows_lost 0)])), (a_rows_sp 0, .inl (cI, 49, .inl (rows_sp 0))), (a_rows 1, .inr (4, [.ref a_house, .ref (a_rows_sp 1), .int (rows_springs 1), .int (rows_lost 1)])), (a_rows_sp 1, .inl (cI, 49, .inl (rows_sp 1))), (a_rows 2, .inr (4, [.ref a_house, .ref (a_rows_sp 2), .int (rows_springs 2), .int (rows_lost 2)])), (a_rows_sp 2, .inl (cI, 49, .inl (rows_sp 2))), (a_rows 3, .inr (4, [.ref a_house, .ref (a_rows_sp 3), .int (rows_springs 3), .int (rows_lost 3)])), (a_rows_sp 3, .inl (cI, 49, .inl (rows_sp 3))), (a_rows 4, .inr (4, [.ref a_house, .ref (a_rows_sp 4), .int (rows_springs 4), .int (rows_lost 4)])), (a_rows_sp 4, .inl (cI, 49, .inl (rows_sp 4))), (a_rows 5, .inr (4, [.ref a_house, .ref (a_rows_sp 5), .int (rows_springs 5), .int (rows_lost 5)])), (a_rows_sp 5, .inl (cI, 49, .inl (rows_sp 5))), (a_rows 6, .inr (4, [.ref a_house, .ref (a_rows_sp 6), .int (rows_springs 6), .int (rows_lost 6)])), (a_rows_sp 6, .inl (cI, 49, .inl (rows_sp 6))), (a_rows 7, .inr (4, [.ref a_house, .ref (a_rows_sp 7), .int u9.1, .int u9.2.1])), (a_rows_sp 7, .inl (cI, 49, .inl u9.2.2)), (a_rows 8, .inr (4, [.ref a_house, .ref (a_rows_sp 8), .int (rows_springs 8), .int (rows_lost 8)])), (a_rows_sp 8, .inl (cI, 49, .inl (rows_sp 8))), (a_rows 9, .inr (4, [.ref a_house, .ref (a_rows_sp 9), .int (rows_springs 9), .int (rows_lost 9)])), (a_rows_sp 9, .inl (cI, 49, .inl (rows_sp 9))), (a_rain, .inr (4, [.ref a_house, .ref a_rain_spoons, .int rain_springs, .int rain_lost])), (a_rain_spoons, .inl (cI, 49, .inl rain_spoons))] H := ⟨hP, hD⟩
    obtain ⟨hP, hD⟩ := hPD
    refine lv_aload_n hx hb dX1_remember_13 rfl (lv_at hl 0 rfl) ?_
    refine lv_aload_n hx hb dX1_remember_14 rfl (lv_at hl 0 rfl) ?_
    refine va_get (D := D) (ci := 1) (v := .int hist_next) (C := RX1) (T := TX1) (N := 3) hx hb hts hiX1_remember_1 hown hE.1 hP 0 rfl rfl 2 (by decide) fL20 (fun _ h9 => h9) rfl dX1_remember_15 ?_
    refine lv_iconst (v := 1) hx hb dX1_remember_18 (by decide) ?_
    refine lv_iadd hx hb dX1_remember_19 ?_
    refine lv_bipush (v := 10) hx hb dX1_remember_20 (by decide) ?_
    refine lv_icmp_ge (tgt := 34) hx hb dX1_remember_22 (by decide) (fun hc10 => ?_) (fun hc10 => ?_)
    · have hf := if_t hf hc10
      refine lv_iconst (v := 0) hx hb dX1_remember_34 (by decide) ?_
      exact J35 (va_up rows_springs 7 u9.1) (va_up rows_lost 7 u9.2.1) (va_up rows_sp 7 u9.2.2) 0 hf _ _ _ ⟨hP, hD⟩ hS (lv_sub hl [0] rfl)
    · have hf := if_f hf hc10
      refine lv_aload_n hx hb dX1_remember_25 rfl (lv_at hl 0 rfl) ?_
      refine va_get (D := D) (ci := 1) (v := .int hist_next) (C := RX1) (T := TX1) (N := 3) hx hb hts hiX1_remember_1 hown hE.1 hP 0 rfl rfl 2 (by decide) fL20 (fun _ h9 => h9) rfl dX1_remember_26 ?_
      refine lv_iconst (v := 1) hx hb dX1_remember_29 (by decide) ?_
      refine lv_iadd hx hb dX1_remember_30 ?_
      refine lv_goto (tgt := 35) hx hb dX1_remember_31 (by decide) ?_
      exact J35 (va_up rows_springs 7 u9.1) (va_up rows_lost 7 u9.2.1) (va_up rows_sp 7 u9.2.2) (hist_next + 1) hf _ _ _ ⟨hP, hD⟩ hS (lv_sub hl [0] rfl)
  · rw [hj] at hf
    refine va_aldq hx hb hE.1 hP 1 2 rfl rfl (ix_in hc1) dX1_remember_8 ?_
    refine W.eq (g2 := F0 m 9 ls [.ref (a_rows 8)]) (by rw [hj]; rfl) ?_
    refine lv_aload_n hx hb dX1_remember_9 rfl (lv_at hl 1 rfl) ?_
    obtain ⟨u10, hu10, hf⟩ := bd_some hf
    refine cl_vN (As := [.ref a_rain]) (rest := []) ⟨hx, hb, hml, hown, hts⟩ (c_X4_become l D cI cZ cR (a_rows 8) a_rain a_rain_spoons (a_rows_sp 8) a_house a_house rain_springs rain_lost (rows_springs 8) (rows_lost 8) rain_spoons (rows_sp 8)  u10 hu10) (cw_X1_remember_X4_become_24 hE hts) hE hP hD hS hA [22, 18, 23, 19] rfl rfl [a_rain, (a_rows 8), a_rain_spoons, (a_rows_sp 8)] rfl rfl 18 4 rfl rfl rfl hl.1 rfl (Nat.le_of_ble_eq_true rfl) dX1_remember_10 ⟨Nat.zero_le _, Nat.zero_le _⟩ (fun H locs hP hD hS => ?_)
    have hPD : PD D A [(a_hist, .inr (1, [.ref a_hist_rows, .int hist_known, .int hist_next])), (a_hist_rows, .inl (cR, 10, .inr (.inr (.inr (.inr (fun j => some (a_rows j))))))), (a_rows 0, .inr (4, [.ref a_house, .ref (a_rows_sp 0), .int (rows_springs 0), .int (rows_lost 0)])), (a_rows_sp 0, .inl (cI, 49, .inl (rows_sp 0))), (a_rows 1, .inr (4, [.ref a_house, .ref (a_rows_sp 1), .int (rows_springs 1), .int (rows_lost 1)])), (a_rows_sp 1, .inl (cI, 49, .inl (rows_sp 1))), (a_rows 2, .inr (4, [.ref a_house, .ref (a_rows_sp 2), .int (rows_springs 2), .int (rows_lost 2)])), (a_rows_sp 2, .inl (cI, 49, .inl (rows_sp 2))), (a_rows 3, .inr (4, [.ref a_house, .ref (a_rows_sp 3), .int (rows_springs 3), .int (rows_lost 3)])), (a_rows_sp 3, .inl (cI, 49, .inl (rows_sp 3))), (a_rows 4, .inr (4, [.ref a_house, .ref (a_rows_sp 4), .int (rows_springs 4), .int (rows_lost 4)])), (a_rows_sp 4, .inl (cI, 49, .inl (rows_sp 4))), (a_rows 5, .inr (4, [.ref a_house, .ref (a_rows_sp 5), .int (rows_springs 5), .int (rows_lost 5)])), (a_rows_sp 5, .inl (cI, 49, .inl (rows_sp 5))), (a_rows 6, .inr (4, [.ref a_house, .ref (a_rows_sp 6), .int (rows_springs 6), .int (rows_lost 6)])), (a_rows_sp 6, .inl (cI, 49, .inl (rows_sp 6))), (a_rows 7, .inr (4, [.ref a_house, .ref (a_rows_sp 7), .int (rows_springs 7), .int (rows_lost 7)])), (a_rows_sp 7, .inl (cI, 49, .inl (rows_sp 7))), (a_rows 8, .inr (4, [.ref a_house, .ref (a_rows_sp 8), .int u10.1, .int u10.2.1])), (a_rows_sp 8, .inl (cI, 49, .inl u10.2.2)), (a_rows 9, .inr (4, [.ref a_house, .ref (a_rows_sp 9), .int (rows_springs 9), .int (rows_lost 9)])), (a_rows_sp 9, .inl (cI, 49, .inl (rows_sp 9))), (a_rain, .inr (4, [.ref a_house, .ref a_rain_spoons, .int rain_springs, .int rain_lost])), (a_rain_spoons, .inl (cI, 49, .inl rain_spoons))] H := ⟨hP, hD⟩
    obtain ⟨hP, hD⟩ := hPD
    refine lv_aload_n hx hb dX1_remember_13 rfl (lv_at hl 0 rfl) ?_
    refine lv_aload_n hx hb dX1_remember_14 rfl (lv_at hl 0 rfl) ?_
    refine va_get (D := D) (ci := 1) (v := .int hist_next) (C := RX1) (T := TX1) (N := 3) hx hb hts hiX1_remember_1 hown hE.1 hP 0 rfl rfl 2 (by decide) fL20 (fun _ h9 => h9) rfl dX1_remember_15 ?_
    refine lv_iconst (v := 1) hx hb dX1_remember_18 (by decide) ?_
    refine lv_iadd hx hb dX1_remember_19 ?_
    refine lv_bipush (v := 10) hx hb dX1_remember_20 (by decide) ?_
    refine lv_icmp_ge (tgt := 34) hx hb dX1_remember_22 (by decide) (fun hc11 => ?_) (fun hc11 => ?_)
    · have hf := if_t hf hc11
      refine lv_iconst (v := 0) hx hb dX1_remember_34 (by decide) ?_
      exact J35 (va_up rows_springs 8 u10.1) (va_up rows_lost 8 u10.2.1) (va_up rows_sp 8 u10.2.2) 0 hf _ _ _ ⟨hP, hD⟩ hS (lv_sub hl [0] rfl)
    · have hf := if_f hf hc11
      refine lv_aload_n hx hb dX1_remember_25 rfl (lv_at hl 0 rfl) ?_
      refine va_get (D := D) (ci := 1) (v := .int hist_next) (C := RX1) (T := TX1) (N := 3) hx hb hts hiX1_remember_1 hown hE.1 hP 0 rfl rfl 2 (by decide) fL20 (fun _ h9 => h9) rfl dX1_remember_26 ?_
      refine lv_iconst (v := 1) hx hb dX1_remember_29 (by decide) ?_
      refine lv_iadd hx hb dX1_remember_30 ?_
      refine lv_goto (tgt := 35) hx hb dX1_remember_31 (by decide) ?_
      exact J35 (va_up rows_springs 8 u10.1) (va_up rows_lost 8 u10.2.1) (va_up rows_sp 8 u10.2.2) (hist_next + 1) hf _ _ _ ⟨hP, hD⟩ hS (lv_sub hl [0] rfl)
  · rw [hj] at hf
    refine va_aldq hx hb hE.1 hP 1 2 rfl rfl (ix_in hc1) dX1_remember_8 ?_
    refine W.eq (g2 := F0 m 9 ls [.ref (a_rows 9)]) (by rw [hj]; rfl) ?_
    refine lv_aload_n hx hb dX1_remember_9 rfl (lv_at hl 1 rfl) ?_
    obtain ⟨u11, hu11, hf⟩ := bd_some hf
    refine cl_vN (As := [.ref a_rain]) (rest := []) ⟨hx, hb, hml, hown, hts⟩ (c_X4_become l D cI cZ cR (a_rows 9) a_rain a_rain_spoons (a_rows_sp 9) a_house a_house rain_springs rain_lost (rows_springs 9) (rows_lost 9) rain_spoons (rows_sp 9)  u11 hu11) (cw_X1_remember_X4_become_24 hE hts) hE hP hD hS hA [22, 20, 23, 21] rfl rfl [a_rain, (a_rows 9), a_rain_spoons, (a_rows_sp 9)] rfl rfl 20 4 rfl rfl rfl hl.1 rfl (Nat.le_of_ble_eq_true rfl) dX1_remember_10 ⟨Nat.zero_le _, Nat.zero_le _⟩ (fun H locs hP hD hS => ?_)
    have hPD : PD D A [(a_hist, .inr (1, [.ref a_hist_rows, .int hist_known, .int hist_next])), (a_hist_rows, .inl (cR, 10, .inr (.inr (.inr (.inr (fun j => some (a_rows j))))))), (a_rows 0, .inr (4, [.ref a_house, .ref (a_rows_sp 0), .int (rows_springs 0), .int (rows_lost 0)])), (a_rows_sp 0, .inl (cI, 49, .inl (rows_sp 0))), (a_rows 1, .inr (4, [.ref a_house, .ref (a_rows_sp 1), .int (rows_springs 1), .int (rows_lost 1)])), (a_rows_sp 1, .inl (cI, 49, .inl (rows_sp 1))), (a_rows 2, .inr (4, [.ref a_house, .ref (a_rows_sp 2), .int (rows_springs 2), .int (rows_lost 2)])), (a_rows_sp 2, .inl (cI, 49, .inl (rows_sp 2))), (a_rows 3, .inr (4, [.ref a_house, .ref (a_rows_sp 3), .int (rows_springs 3), .int (rows_lost 3)])), (a_rows_sp 3, .inl (cI, 49, .inl (rows_sp 3))), (a_rows 4, .inr (4, [.ref a_house, .ref (a_rows_sp 4), .int (rows_springs 4), .int (rows_lost 4)])), (a_rows_sp 4, .inl (cI, 49, .inl (rows_sp 4))), (a_rows 5, .inr (4, [.ref a_house, .ref (a_rows_sp 5), .int (rows_springs 5), .int (rows_lost 5)])), (a_rows_sp 5, .inl (cI, 49, .inl (rows_sp 5))), (a_rows 6, .inr (4, [.ref a_house, .ref (a_rows_sp 6), .int (rows_springs 6), .int (rows_lost 6)])), (a_rows_sp 6, .inl (cI, 49, .inl (rows_sp 6))), (a_rows 7, .inr (4, [.ref a_house, .ref (a_rows_sp 7), .int (rows_springs 7), .int (rows_lost 7)])), (a_rows_sp 7, .inl (cI, 49, .inl (rows_sp 7))), (a_rows 8, .inr (4, [.ref a_house, .ref (a_rows_sp 8), .int (rows_springs 8), .int (rows_lost 8)])), (a_rows_sp 8, .inl (cI, 49, .inl (rows_sp 8))), (a_rows 9, .inr (4, [.ref a_house, .ref (a_rows_sp 9), .int u11.1, .int u11.2.1])), (a_rows_sp 9, .inl (cI, 49, .inl u11.2.2)), (a_rain, .inr (4, [.ref a_house, .ref a_rain_spoons, .int rain_springs, .int rain_lost])), (a_rain_spoons, .inl (cI, 49, .inl rain_spoons))] H := ⟨hP, hD⟩
    obtain ⟨hP, hD⟩ := hPD
    refine lv_aload_n hx hb dX1_remember_13 rfl (lv_at hl 0 rfl) ?_
    refine lv_aload_n hx hb dX1_remember_14 rfl (lv_at hl 0 rfl) ?_
    refine va_get (D := D) (ci := 1) (v := .int hist_next) (C := RX1) (T := TX1) (N := 3) hx hb hts hiX1_remember_1 hown hE.1 hP 0 rfl rfl 2 (by decide) fL20 (fun _ h9 => h9) rfl dX1_remember_15 ?_
    refine lv_iconst (v := 1) hx hb dX1_remember_18 (by decide) ?_
    refine lv_iadd hx hb dX1_remember_19 ?_
    refine lv_bipush (v := 10) hx hb dX1_remember_20 (by decide) ?_
    refine lv_icmp_ge (tgt := 34) hx hb dX1_remember_22 (by decide) (fun hc12 => ?_) (fun hc12 => ?_)
    · have hf := if_t hf hc12
      refine lv_iconst (v := 0) hx hb dX1_remember_34 (by decide) ?_
      exact J35 (va_up rows_springs 9 u11.1) (va_up rows_lost 9 u11.2.1) (va_up rows_sp 9 u11.2.2) 0 hf _ _ _ ⟨hP, hD⟩ hS (lv_sub hl [0] rfl)
    · have hf := if_f hf hc12
      refine lv_aload_n hx hb dX1_remember_25 rfl (lv_at hl 0 rfl) ?_
      refine va_get (D := D) (ci := 1) (v := .int hist_next) (C := RX1) (T := TX1) (N := 3) hx hb hts hiX1_remember_1 hown hE.1 hP 0 rfl rfl 2 (by decide) fL20 (fun _ h9 => h9) rfl dX1_remember_26 ?_
      refine lv_iconst (v := 1) hx hb dX1_remember_29 (by decide) ?_
      refine lv_iadd hx hb dX1_remember_30 ?_
      refine lv_goto (tgt := 35) hx hb dX1_remember_31 (by decide) ?_
      exact J35 (va_up rows_springs 9 u11.1) (va_up rows_lost 9 u11.2.1) (va_up rows_sp 9 u11.2.2) (hist_next + 1) hf _ _ _ ⟨hP, hD⟩ hS (lv_sub hl [0] rfl)
abbrev rmX1_restore : Room := { frames := 1, cells := 0, slots := 0, locals := 22 }
theorem hiX1_restore_1 : ∀ w ∈ wsX10, w ∈ wsX1_restore := fun w h => (goodIn_r (big := wsX1_restore) wsX10 [11, 12, 13] rfl (by decide +kernel) w h).1
theorem cw_X1_restore_X4_become_24 {s : State} {args : Array Value} {D : va_G} {cI cZ cR : ClassId} (hE : EV D cI cZ cR s) (hts : ∀ x ∈ wsX1_restore, x.before args s = true) : va_CN rmX1_restore s args RX1 24 yX4_become "RainShelves" cX4_become 3 none wsX4_become rmX4_become 0 0 1 ∧ (Cond.instanceMethod yX4_become).before args s = true ∧ (Cond.selects RX4 yX4_become yX4_become).before args s = true := ⟨va_cnB 1 hts gX1_restore_X4_become_n24 rfl rfl rfl (hE.nm 25 rfl) (hts (.initialized RX4) (List.mem_of_getElem? (i := 5) rfl)) (by decide +kernel) ⟨Nat.le_of_ble_eq_true rfl, Nat.le_of_ble_eq_true rfl⟩, hts (.instanceMethod yX4_become) (List.mem_of_getElem? (i := 4) rfl), hts (.selects RX4 yX4_become yX4_become) (List.mem_of_getElem? (i := 6) rfl)⟩
set_option maxRecDepth 100000 in
set_option maxHeartbeats 4000000 in
theorem c_X1_restore (l : Launch) (D : va_G) (cI cZ cR : ClassId) (a_hist : Nat) (a_rain : Nat) (a_hist_rows : Nat) (a_house : Nat) (a_rows : Nat → Nat) (a_rows_sp : Nat → Nat) (a_rain_spoons : Nat) (hist_known : Int32) (hist_next : Int32) (rows_springs : Nat → Int32) (rows_lost : Nat → Int32) (rows_sp : Nat → Nat → Int32) (rain_springs : Int32) (rain_lost : Int32) (rain_spoons : Nat → Int32) (out : Int32 × Int32 × Int32 × Int32 × (Nat → Int32)) (hf : f_X1_restore hist_known hist_next rows_springs rows_lost rows_sp rain_spoons = some out) : Cv l yX1_restore wsX1_restore rmX1_restore D cI cZ cR [.ref a_hist, .ref a_rain] [(a_hist, .inr (1, [.ref a_hist_rows, .int hist_known, .int hist_next])), (a_hist_rows, .inl (cR, 10, .inr (.inr (.inr (.inr (fun j => some (a_rows j))))))), (a_rows 0, .inr (4, [.ref a_house, .ref (a_rows_sp 0), .int (rows_springs 0), .int (rows_lost 0)])), (a_rows_sp 0, .inl (cI, 49, .inl (rows_sp 0))), (a_rows 1, .inr (4, [.ref a_house, .ref (a_rows_sp 1), .int (rows_springs 1), .int (rows_lost 1)])), (a_rows_sp 1, .inl (cI, 49, .inl (rows_sp 1))), (a_rows 2, .inr (4, [.ref a_house, .ref (a_rows_sp 2), .int (rows_springs 2), .int (rows_lost 2)])), (a_rows_sp 2, .inl (cI, 49, .inl (rows_sp 2))), (a_rows 3, .inr (4, [.ref a_house, .ref (a_rows_sp 3), .int (rows_springs 3), .int (rows_lost 3)])), (a_rows_sp 3, .inl (cI, 49, .inl (rows_sp 3))), (a_rows 4, .inr (4, [.ref a_house, .ref (a_rows_sp 4), .int (rows_springs 4), .int (rows_lost 4)])), (a_rows_sp 4, .inl (cI, 49, .inl (rows_sp 4))), (a_rows 5, .inr (4, [.ref a_house, .ref (a_rows_sp 5), .int (rows_springs 5), .int (rows_lost 5)])), (a_rows_sp 5, .inl (cI, 49, .inl (rows_sp 5))), (a_rows 6, .inr (4, [.ref a_house, .ref (a_rows_sp 6), .int (rows_springs 6), .int (rows_lost 6)])), (a_rows_sp 6, .inl (cI, 49, .inl (rows_sp 6))), (a_rows 7, .inr (4, [.ref a_house, .ref (a_rows_sp 7), .int (rows_springs 7), .int (rows_lost 7)])), (a_rows_sp 7, .inl (cI, 49, .inl (rows_sp 7))), (a_rows 8, .inr (4, [.ref a_house, .ref (a_rows_sp 8), .int (rows_springs 8), .int (rows_lost 8)])), (a_rows_sp 8, .inl (cI, 49, .inl (rows_sp 8))), (a_rows 9, .inr (4, [.ref a_house, .ref (a_rows_sp 9), .int (rows_springs 9), .int (rows_lost 9)])), (a_rows_sp 9, .inl (cI, 49, .inl (rows_sp 9))), (a_rain, .inr (4, [.ref a_house, .ref a_rain_spoons, .int rain_springs, .int rain_lost])), (a_rain_spoons, .inl (cI, 49, .inl rain_spoons))] [(a_hist, .inr (1, [.ref a_hist_rows, .int out.1, .int out.2.1])), (a_hist_rows, .inl (cR, 10, .inr (.inr (.inr (.inr (fun j => some (a_rows j))))))), (a_rows 0, .inr (4, [.ref a_house, .ref (a_rows_sp 0), .int (rows_springs 0), .int (rows_lost 0)])), (a_rows_sp 0, .inl (cI, 49, .inl (rows_sp 0))), (a_rows 1, .inr (4, [.ref a_house, .ref (a_rows_sp 1), .int (rows_springs 1), .int (rows_lost 1)])), (a_rows_sp 1, .inl (cI, 49, .inl (rows_sp 1))), (a_rows 2, .inr (4, [.ref a_house, .ref (a_rows_sp 2), .int (rows_springs 2), .int (rows_lost 2)])), (a_rows_sp 2, .inl (cI, 49, .inl (rows_sp 2))), (a_rows 3, .inr (4, [.ref a_house, .ref (a_rows_sp 3), .int (rows_springs 3), .int (rows_lost 3)])), (a_rows_sp 3, .inl (cI, 49, .inl (rows_sp 3))), (a_rows 4, .inr (4, [.ref a_house, .ref (a_rows_sp 4), .int (rows_springs 4), .int (rows_lost 4)])), (a_rows_sp 4, .inl (cI, 49, .inl (rows_sp 4))), (a_rows 5, .inr (4, [.ref a_house, .ref (a_rows_sp 5), .int (rows_springs 5), .int (rows_lost 5)])), (a_rows_sp 5, .inl (cI, 49, .inl (rows_sp 5))), (a_rows 6, .inr (4, [.ref a_house, .ref (a_rows_sp 6), .int (rows_springs 6), .int (rows_lost 6)])), (a_rows_sp 6, .inl (cI, 49, .inl (rows_sp 6))), (a_rows 7, .inr (4, [.ref a_house, .ref (a_rows_sp 7), .int (rows_springs 7), .int (rows_lost 7)])), (a_rows_sp 7, .inl (cI, 49, .inl (rows_sp 7))), (a_rows 8, .inr (4, [.ref a_house, .ref (a_rows_sp 8), .int (rows_springs 8), .int (rows_lost 8)])), (a_rows_sp 8, .inl (cI, 49, .inl (rows_sp 8))), (a_rows 9, .inr (4, [.ref a_house, .ref (a_rows_sp 9), .int (rows_springs 9), .int (rows_lost 9)])), (a_rows_sp 9, .inl (cI, 49, .inl (rows_sp 9))), (a_rain, .inr (4, [.ref a_house, .ref a_rain_spoons, .int out.2.2.1, .int out.2.2.2.1])), (a_rain_spoons, .inl (cI, 49, .inl out.2.2.2.2))] := by
  refine ent_v (cc := cX1_restore) (maxL := 2) (by decide) rfl (Nat.le_of_ble_eq_true rfl) ?_
  intro p e s m below meth c A Q hx hb hml hown hts hE hA hP hD hS hret ls hl
  have hown : s.vm.findClass RX1 = some m.cls := hown
  have hl : lv_has ls 2 [(0, .ref a_hist), (1, .ref a_rain)] := hl
  have fL11 := hts (.fieldLink RX1 11 "RainShelves$History" "rows" "[LRainShelves$Rain;") (List.mem_of_getElem? (i := 2) rfl)
  have fL20 := hts (.fieldLink RX1 20 "RainShelves$History" "next" "I") (List.mem_of_getElem? (i := 1) rfl)
  have fL28 := hts (.fieldLink RX1 28 "RainShelves$History" "known" "I") (List.mem_of_getElem? (i := 3) rfl)
  unfold f_X1_restore at hf
  have J19 : ∀ (s1_19 : Int32), f_X1_restore_J19 hist_known rows_springs rows_lost rows_sp rain_spoons s1_19 = some out → ∀ (H : Heap) (locs : List Loc) (ls : Array Slot), PD D A [(a_hist, .inr (1, [.ref a_hist_rows, .int hist_known, .int hist_next])), (a_hist_rows, .inl (cR, 10, .inr (.inr (.inr (.inr (fun j => some (a_rows j))))))), (a_rows 0, .inr (4, [.ref a_house, .ref (a_rows_sp 0), .int (rows_springs 0), .int (rows_lost 0)])), (a_rows_sp 0, .inl (cI, 49, .inl (rows_sp 0))), (a_rows 1, .inr (4, [.ref a_house, .ref (a_rows_sp 1), .int (rows_springs 1), .int (rows_lost 1)])), (a_rows_sp 1, .inl (cI, 49, .inl (rows_sp 1))), (a_rows 2, .inr (4, [.ref a_house, .ref (a_rows_sp 2), .int (rows_springs 2), .int (rows_lost 2)])), (a_rows_sp 2, .inl (cI, 49, .inl (rows_sp 2))), (a_rows 3, .inr (4, [.ref a_house, .ref (a_rows_sp 3), .int (rows_springs 3), .int (rows_lost 3)])), (a_rows_sp 3, .inl (cI, 49, .inl (rows_sp 3))), (a_rows 4, .inr (4, [.ref a_house, .ref (a_rows_sp 4), .int (rows_springs 4), .int (rows_lost 4)])), (a_rows_sp 4, .inl (cI, 49, .inl (rows_sp 4))), (a_rows 5, .inr (4, [.ref a_house, .ref (a_rows_sp 5), .int (rows_springs 5), .int (rows_lost 5)])), (a_rows_sp 5, .inl (cI, 49, .inl (rows_sp 5))), (a_rows 6, .inr (4, [.ref a_house, .ref (a_rows_sp 6), .int (rows_springs 6), .int (rows_lost 6)])), (a_rows_sp 6, .inl (cI, 49, .inl (rows_sp 6))), (a_rows 7, .inr (4, [.ref a_house, .ref (a_rows_sp 7), .int (rows_springs 7), .int (rows_lost 7)])), (a_rows_sp 7, .inl (cI, 49, .inl (rows_sp 7))), (a_rows 8, .inr (4, [.ref a_house, .ref (a_rows_sp 8), .int (rows_springs 8), .int (rows_lost 8)])), (a_rows_sp 8, .inl (cI, 49, .inl (rows_sp 8))), (a_rows 9, .inr (4, [.ref a_house, .ref (a_rows_sp 9), .int (rows_springs 9), .int (rows_lost 9)])), (a_rows_sp 9, .inl (cI, 49, .inl (rows_sp 9))), (a_rain, .inr (4, [.ref a_house, .ref a_rain_spoons, .int rain_springs, .int rain_lost])), (a_rain_spoons, .inl (cI, 49, .inl rain_spoons))] H → va_S A s.heap H locs → lv_has ls 2 [(0, .ref a_hist), (1, .ref a_rain)] → W p l e rmX1_restore s m ([.ref a_hist, .ref a_rain] : List Value).toArray below meth c H locs 0 0 Q (F0 m 19 ls [.int s1_19, .ref a_hist]) := by
    intro s1_19 hf H locs ls hPD hS hl
    obtain ⟨hP, hD⟩ := hPD
    unfold f_X1_restore_J19 at hf
    refine va_put (D := D) (ci := 1) (v := .int s1_19) (ty := .int) (C := RX1) (T := TX1) (N := 3) hx hb hts hiX1_restore_1 tyX1 tyX1_ok nmX1 hown hE.1 hP hD hS 0 rfl rfl 2 (by decide) fL20 (fun _ h9 => h9) rfl (tyX1_ok 2 (by decide)) rfl rfl (Nat.le_of_ble_eq_true rfl) dX1_restore_19 (fun H locs hP hD hS => ?_)
    have hPD : PD D A [(a_hist, .inr (1, [.ref a_hist_rows, .int hist_known, .int s1_19])), (a_hist_rows, .inl (cR, 10, .inr (.inr (.inr (.inr (fun j => some (a_rows j))))))), (a_rows 0, .inr (4, [.ref a_house, .ref (a_rows_sp 0), .int (rows_springs 0), .int (rows_lost 0)])), (a_rows_sp 0, .inl (cI, 49, .inl (rows_sp 0))), (a_rows 1, .inr (4, [.ref a_house, .ref (a_rows_sp 1), .int (rows_springs 1), .int (rows_lost 1)])), (a_rows_sp 1, .inl (cI, 49, .inl (rows_sp 1))), (a_rows 2, .inr (4, [.ref a_house, .ref (a_rows_sp 2), .int (rows_springs 2), .int (rows_lost 2)])), (a_rows_sp 2, .inl (cI, 49, .inl (rows_sp 2))), (a_rows 3, .inr (4, [.ref a_house, .ref (a_rows_sp 3), .int (rows_springs 3), .int (rows_lost 3)])), (a_rows_sp 3, .inl (cI, 49, .inl (rows_sp 3))), (a_rows 4, .inr (4, [.ref a_house, .ref (a_rows_sp 4), .int (rows_springs 4), .int (rows_lost 4)])), (a_rows_sp 4, .inl (cI, 49, .inl (rows_sp 4))), (a_rows 5, .inr (4, [.ref a_house, .ref (a_rows_sp 5), .int (rows_springs 5), .int (rows_lost 5)])), (a_rows_sp 5, .inl (cI, 49, .inl (rows_sp 5))), (a_rows 6, .inr (4, [.ref a_house, .ref (a_rows_sp 6), .int (rows_springs 6), .int (rows_lost 6)])), (a_rows_sp 6, .inl (cI, 49, .inl (rows_sp 6))), (a_rows 7, .inr (4, [.ref a_house, .ref (a_rows_sp 7), .int (rows_springs 7), .int (rows_lost 7)])), (a_rows_sp 7, .inl (cI, 49, .inl (rows_sp 7))), (a_rows 8, .inr (4, [.ref a_house, .ref (a_rows_sp 8), .int (rows_springs 8), .int (rows_lost 8)])), (a_rows_sp 8, .inl (cI, 49, .inl (rows_sp 8))), (a_rows 9, .inr (4, [.ref a_house, .ref (a_rows_sp 9), .int (rows_springs 9), .int (rows_lost 9)])), (a_rows_sp 9, .inl (cI, 49, .inl (rows_sp 9))), (a_rain, .inr (4, [.ref a_house, .ref a_rain_spoons, .int rain_springs, .int rain_lost])), (a_rain_spoons, .inl (cI, 49, .inl rain_spoons))] H := ⟨hP, hD⟩
    obtain ⟨hP, hD⟩ := hPD
    refine lv_aload_n hx hb dX1_restore_22 rfl (lv_at hl 1 rfl) ?_
    refine lv_aload_n hx hb dX1_restore_23 rfl (lv_at hl 0 rfl) ?_
    refine va_get (D := D) (ci := 1) (v := .ref a_hist_rows) (C := RX1) (T := TX1) (N := 3) hx hb hts hiX1_restore_1 hown hE.1 hP 0 rfl rfl 0 (by decide) fL11 (fun _ h9 => h9) rfl dX1_restore_24 ?_
    refine lv_aload_n hx hb dX1_restore_27 rfl (lv_at hl 0 rfl) ?_
    refine va_get (D := D) (ci := 1) (v := .int s1_19) (C := RX1) (T := TX1) (N := 3) hx hb hts hiX1_restore_1 hown hE.1 hP 0 rfl rfl 2 (by decide) fL20 (fun _ h9 => h9) rfl dX1_restore_28 ?_
    obtain ⟨hc1, hf⟩ := ck_some hf
    rcases ix_cases10 hc1 with hj | hj | hj | hj | hj | hj | hj | hj | hj | hj
    · rw [hj] at hf
      refine va_aldq hx hb hE.1 hP 1 2 rfl rfl (ix_in hc1) dX1_restore_31 ?_
      refine W.eq (g2 := F0 m 32 ls [.ref (a_rows 0), .ref a_rain]) (by rw [hj]; rfl) ?_
      obtain ⟨u2, hu2, hf⟩ := bd_some hf
      refine cl_vN (As := [.ref (a_rows 0)]) (rest := []) ⟨hx, hb, hml, hown, hts⟩ (c_X4_become l D cI cZ cR a_rain (a_rows 0) (a_rows_sp 0) a_rain_spoons a_house a_house (rows_springs 0) (rows_lost 0) rain_springs rain_lost (rows_sp 0) rain_spoons  u2 hu2) (cw_X1_restore_X4_become_24 hE hts) hE hP hD hS hA [2, 22, 3, 23] rfl rfl [(a_rows 0), a_rain, (a_rows_sp 0), a_rain_spoons] rfl rfl 22 4 rfl rfl rfl hl.1 rfl (Nat.le_of_ble_eq_true rfl) dX1_restore_32 ⟨Nat.zero_le _, Nat.zero_le _⟩ (fun H locs hP hD hS => ?_)
      have hPD : PD D A [(a_hist, .inr (1, [.ref a_hist_rows, .int hist_known, .int s1_19])), (a_hist_rows, .inl (cR, 10, .inr (.inr (.inr (.inr (fun j => some (a_rows j))))))), (a_rows 0, .inr (4, [.ref a_house, .ref (a_rows_sp 0), .int (rows_springs 0), .int (rows_lost 0)])), (a_rows_sp 0, .inl (cI, 49, .inl (rows_sp 0))), (a_rows 1, .inr (4, [.ref a_house, .ref (a_rows_sp 1), .int (rows_springs 1), .int (rows_lost 1)])), (a_rows_sp 1, .inl (cI, 49, .inl (rows_sp 1))), (a_rows 2, .inr (4, [.ref a_house, .ref (a_rows_sp 2), .int (rows_springs 2), .int (rows_lost 2)])), (a_rows_sp 2, .inl (cI, 49, .inl (rows_sp 2))), (a_rows 3, .inr (4, [.ref a_house, .ref (a_rows_sp 3), .int (rows_springs 3), .int (rows_lost 3)])), (a_rows_sp 3, .inl (cI, 49, .inl (rows_sp 3))), (a_rows 4, .inr (4, [.ref a_house, .ref (a_rows_sp 4), .int (rows_springs 4), .int (rows_lost 4)])), (a_rows_sp 4, .inl (cI, 49, .inl (rows_sp 4))), (a_rows 5, .inr (4, [.ref a_house, .ref (a_rows_sp 5), .int (rows_springs 5), .int (rows_lost 5)])), (a_rows_sp 5, .inl (cI, 49, .inl (rows_sp 5))), (a_rows 6, .inr (4, [.ref a_house, .ref (a_rows_sp 6), .int (rows_springs 6), .int (rows_lost 6)])), (a_rows_sp 6, .inl (cI, 49, .inl (rows_sp 6))), (a_rows 7, .inr (4, [.ref a_house, .ref (a_rows_sp 7), .int (rows_springs 7), .int (rows_lost 7)])), (a_rows_sp 7, .inl (cI, 49, .inl (rows_sp 7))), (a_rows 8, .inr (4, [.ref a_house, .ref (a_rows_sp 8), .int (rows_springs 8), .int (rows_lost 8)])), (a_rows_sp 8, .inl (cI, 49, .inl (rows_sp 8))), (a_rows 9, .inr (4, [.ref a_house, .ref (a_rows_sp 9), .int (rows_springs 9), .int (rows_lost 9)])), (a_rows_sp 9, .inl (cI, 49, .inl (rows_sp 9))), (a_rain, .inr (4, [.ref a_house, .ref a_rain_spoons, .int u2.1, .int u2.2.1])), (a_rain_spoons, .inl (cI, 49, .inl u2.2.2))] H := ⟨hP, hD⟩
      obtain ⟨hP, hD⟩ := hPD
      refine lv_aload_n hx hb dX1_restore_35 rfl (lv_at hl 0 rfl) ?_
      refine lv_dup hx hb dX1_restore_36 rfl ?_
      refine va_get (D := D) (ci := 1) (v := .int hist_known) (C := RX1) (T := TX1) (N := 3) hx hb hts hiX1_restore_1 hown hE.1 hP 0 rfl rfl 1 (by decide) fL28 (fun _ h9 => h9) rfl dX1_restore_37 ?_
      refine lv_iconst (v := 1) hx hb dX1_restore_40 (by decide) ?_
      refine lv_isub hx hb dX1_restore_41 ?_
      refine va_put (D := D) (ci := 1) (v := .int (hist_known - 1)) (ty := .int) (C := RX1) (T := TX1) (N := 3) hx hb hts hiX1_restore_1 tyX1 tyX1_ok nmX1 hown hE.1 hP hD hS 0 rfl rfl 1 (by decide) fL28 (fun _ h9 => h9) rfl (tyX1_ok 1 (by decide)) rfl rfl (Nat.le_of_ble_eq_true rfl) dX1_restore_42 (fun H locs hP hD hS => ?_)
      have hPD : PD D A [(a_hist, .inr (1, [.ref a_hist_rows, .int (hist_known - 1), .int s1_19])), (a_hist_rows, .inl (cR, 10, .inr (.inr (.inr (.inr (fun j => some (a_rows j))))))), (a_rows 0, .inr (4, [.ref a_house, .ref (a_rows_sp 0), .int (rows_springs 0), .int (rows_lost 0)])), (a_rows_sp 0, .inl (cI, 49, .inl (rows_sp 0))), (a_rows 1, .inr (4, [.ref a_house, .ref (a_rows_sp 1), .int (rows_springs 1), .int (rows_lost 1)])), (a_rows_sp 1, .inl (cI, 49, .inl (rows_sp 1))), (a_rows 2, .inr (4, [.ref a_house, .ref (a_rows_sp 2), .int (rows_springs 2), .int (rows_lost 2)])), (a_rows_sp 2, .inl (cI, 49, .inl (rows_sp 2))), (a_rows 3, .inr (4, [.ref a_house, .ref (a_rows_sp 3), .int (rows_springs 3), .int (rows_lost 3)])), (a_rows_sp 3, .inl (cI, 49, .inl (rows_sp 3))), (a_rows 4, .inr (4, [.ref a_house, .ref (a_rows_sp 4), .int (rows_springs 4), .int (rows_lost 4)])), (a_rows_sp 4, .inl (cI, 49, .inl (rows_sp 4))), (a_rows 5, .inr (4, [.ref a_house, .ref (a_rows_sp 5), .int (rows_springs 5), .int (rows_lost 5)])), (a_rows_sp 5, .inl (cI, 49, .inl (rows_sp 5))), (a_rows 6, .inr (4, [.ref a_house, .ref (a_rows_sp 6), .int (rows_springs 6), .int (rows_lost 6)])), (a_rows_sp 6, .inl (cI, 49, .inl (rows_sp 6))), (a_rows 7, .inr (4, [.ref a_house, .ref (a_rows_sp 7), .int (rows_springs 7), .int (rows_lost 7)])), (a_rows_sp 7, .inl (cI, 49, .inl (rows_sp 7))), (a_rows 8, .inr (4, [.ref a_house, .ref (a_rows_sp 8), .int (rows_springs 8), .int (rows_lost 8)])), (a_rows_sp 8, .inl (cI, 49, .inl (rows_sp 8))), (a_rows 9, .inr (4, [.ref a_house, .ref (a_rows_sp 9), .int (rows_springs 9), .int (rows_lost 9)])), (a_rows_sp 9, .inl (cI, 49, .inl (rows_sp 9))), (a_rain, .inr (4, [.ref a_house, .ref a_rain_spoons, .int u2.1, .int u2.2.1])), (a_rain_spoons, .inl (cI, 49, .inl u2.2.2))] H := ⟨hP, hD⟩
      obtain ⟨hP, hD⟩ := hPD
      have he := Option.some.inj hf
      subst he
      exact hret _ _ _ _ dX1_restore_45 hP hD hS
    · rw [hj] at hf
      refine va_aldq hx hb hE.1 hP 1 2 rfl rfl (ix_in hc1) dX1_restore_31 ?_
      refine W.eq (g2 := F0 m 32 ls [.ref (a_rows 1), .ref a_rain]) (by rw [hj]; rfl) ?_
      obtain ⟨u3, hu3, hf⟩ := bd_some hf
      refine cl_vN (As := [.ref (a_rows 1)]) (rest := []) ⟨hx, hb, hml, hown, hts⟩ (c_X4_become l D cI cZ cR a_rain (a_rows 1) (a_rows_sp 1) a_rain_spoons a_house a_house (rows_springs 1) (rows_lost 1) rain_springs rain_lost (rows_sp 1) rain_spoons  u3 hu3) (cw_X1_restore_X4_become_24 hE hts) hE hP hD hS hA [4, 22, 5, 23] rfl rfl [(a_rows 1), a_rain, (a_rows_sp 1), a_rain_spoons] rfl rfl 22 4 rfl rfl rfl hl.1 rfl (Nat.le_of_ble_eq_true rfl) dX1_restore_32 ⟨Nat.zero_le _, Nat.zero_le _⟩ (fun H locs hP hD hS => ?_)
      have hPD : PD D A [(a_hist, .inr (1, [.ref a_hist_rows, .int hist_known, .int s1_19])), (a_hist_rows, .inl (cR, 10, .inr (.inr (.inr (.inr (fun j => some (a_rows j))))))), (a_rows 0, .inr (4, [.ref a_house, .ref (a_rows_sp 0), .int (rows_springs 0), .int (rows_lost 0)])), (a_rows_sp 0, .inl (cI, 49, .inl (rows_sp 0))), (a_rows 1, .inr (4, [.ref a_house, .ref (a_rows_sp 1), .int (rows_springs 1), .int (rows_lost 1)])), (a_rows_sp 1, .inl (cI, 49, .inl (rows_sp 1))), (a_rows 2, .inr (4, [.ref a_house, .ref (a_rows_sp 2), .int (rows_springs 2), .int (rows_lost 2)])), (a_rows_sp 2, .inl (cI, 49, .inl (rows_sp 2))), (a_rows 3, .inr (4, [.ref a_house, .ref (a_rows_sp 3), .int (rows_springs 3), .int (rows_lost 3)])), (a_rows_sp 3, .inl (cI, 49, .inl (rows_sp 3))), (a_rows 4, .inr (4, [.ref a_house, .ref (a_rows_sp 4), .int (rows_springs 4), .int (rows_lost 4)])), (a_rows_sp 4, .inl (cI, 49, .inl (rows_sp 4))), (a_rows 5, .inr (4, [.ref a_house, .ref (a_rows_sp 5), .int (rows_springs 5), .int (rows_lost 5)])), (a_rows_sp 5, .inl (cI, 49, .inl (rows_sp 5))), (a_rows 6, .inr (4, [.ref a_house, .ref (a_rows_sp 6), .int (rows_springs 6), .int (rows_lost 6)])), (a_rows_sp 6, .inl (cI, 49, .inl (rows_sp 6))), (a_rows 7, .inr (4, [.ref a_house, .ref (a_rows_sp 7), .int (rows_springs 7), .int (rows_lost 7)])), (a_rows_sp 7, .inl (cI, 49, .inl (rows_sp 7))), (a_rows 8, .inr (4, [.ref a_house, .ref (a_rows_sp 8), .int (rows_springs 8), .int (rows_lost 8)])), (a_rows_sp 8, .inl (cI, 49, .inl (rows_sp 8))), (a_rows 9, .inr (4, [.ref a_house, .ref (a_rows_sp 9), .int (rows_springs 9), .int (rows_lost 9)])), (a_rows_sp 9, .inl (cI, 49, .inl (rows_sp 9))), (a_rain, .inr (4, [.ref a_house, .ref a_rain_spoons, .int u3.1, .int u3.2.1])), (a_rain_spoons, .inl (cI, 49, .inl u3.2.2))] H := ⟨hP, hD⟩
      obtain ⟨hP, hD⟩ := hPD
      refine lv_aload_n hx hb dX1_restore_35 rfl (lv_at hl 0 rfl) ?_
      refine lv_dup hx hb dX1_restore_36 rfl ?_
      refine va_get (D := D) (ci := 1) (v := .int hist_known) (C := RX1) (T := TX1) (N := 3) hx hb hts hiX1_restore_1 hown hE.1 hP 0 rfl rfl 1 (by decide) fL28 (fun _ h9 => h9) rfl dX1_restore_37 ?_
      refine lv_iconst (v := 1) hx hb dX1_restore_40 (by decide) ?_
      refine lv_isub hx hb dX1_restore_41 ?_
      refine va_put (D := D) (ci := 1) (v := .int (hist_known - 1)) (ty := .int) (C := RX1) (T := TX1) (N := 3) hx hb hts hiX1_restore_1 tyX1 tyX1_ok nmX1 hown hE.1 hP hD hS 0 rfl rfl 1 (by decide) fL28 (fun _ h9 => h9) rfl (tyX1_ok 1 (by decide)) rfl rfl (Nat.le_of_ble_eq_true rfl) dX1_restore_42 (fun H locs hP hD hS => ?_)
      have hPD : PD D A [(a_hist, .inr (1, [.ref a_hist_rows, .int (hist_known - 1), .int s1_19])), (a_hist_rows, .inl (cR, 10, .inr (.inr (.inr (.inr (fun j => some (a_rows j))))))), (a_rows 0, .inr (4, [.ref a_house, .ref (a_rows_sp 0), .int (rows_springs 0), .int (rows_lost 0)])), (a_rows_sp 0, .inl (cI, 49, .inl (rows_sp 0))), (a_rows 1, .inr (4, [.ref a_house, .ref (a_rows_sp 1), .int (rows_springs 1), .int (rows_lost 1)])), (a_rows_sp 1, .inl (cI, 49, .inl (rows_sp 1))), (a_rows 2, .inr (4, [.ref a_house, .ref (a_rows_sp 2), .int (rows_springs 2), .int (rows_lost 2)])), (a_rows_sp 2, .inl (cI, 49, .inl (rows_sp 2))), (a_rows 3, .inr (4, [.ref a_house, .ref (a_rows_sp 3), .int (rows_springs 3), .int (rows_lost 3)])), (a_rows_sp 3, .inl (cI, 49, .inl (rows_sp 3))), (a_rows 4, .inr (4, [.ref a_house, .ref (a_rows_sp 4), .int (rows_springs 4), .int (rows_lost 4)])), (a_rows_sp 4, .inl (cI, 49, .inl (rows_sp 4))), (a_rows 5, .inr (4, [.ref a_house, .ref (a_rows_sp 5), .int (rows_springs 5), .int (rows_lost 5)])), (a_rows_sp 5, .inl (cI, 49, .inl (rows_sp 5))), (a_rows 6, .inr (4, [.ref a_house, .ref (a_rows_sp 6), .int (rows_springs 6), .int (rows_lost 6)])), (a_rows_sp 6, .inl (cI, 49, .inl (rows_sp 6))), (a_rows 7, .inr (4, [.ref a_house, .ref (a_rows_sp 7), .int (rows_springs 7), .int (rows_lost 7)])), (a_rows_sp 7, .inl (cI, 49, .inl (rows_sp 7))), (a_rows 8, .inr (4, [.ref a_house, .ref (a_rows_sp 8), .int (rows_springs 8), .int (rows_lost 8)])), (a_rows_sp 8, .inl (cI, 49, .inl (rows_sp 8))), (a_rows 9, .inr (4, [.ref a_house, .ref (a_rows_sp 9), .int (rows_springs 9), .int (rows_lost 9)])), (a_rows_sp 9, .inl (cI, 49, .inl (rows_sp 9))), (a_rain, .inr (4, [.ref a_house, .ref a_rain_spoons, .int u3.1, .int u3.2.1])), (a_rain_spoons, .inl (cI, 49, .inl u3.2.2))] H := ⟨hP, hD⟩
      obtain ⟨hP, hD⟩ := hPD
      have he := Option.some.inj hf
      subst he
      exact hret _ _ _ _ dX1_restore_45 hP hD hS
    · rw [hj] at hf
      refine va_aldq hx hb hE.1 hP 1 2 rfl rfl (ix_in hc1) dX1_restore_31 ?_
      refine W.eq (g2 := F0 m 32 ls [.ref (a_rows 2), .ref a_rain]) (by rw [hj]; rfl) ?_
      obtain ⟨u4, hu4, hf⟩ := bd_some hf
      refine cl_vN (As := [.ref (a_rows 2)]) (rest := []) ⟨hx, hb, hml, hown, hts⟩ (c_X4_become l D cI cZ cR a_rain (a_rows 2) (a_rows_sp 2) a_rain_spoons a_house a_house (rows_springs 2) (rows_lost 2) rain_springs rain_lost (rows_sp 2) rain_spoons  u4 hu4) (cw_X1_restore_X4_become_24 hE hts) hE hP hD hS hA [6, 22, 7, 23] rfl rfl [(a_rows 2), a_rain, (a_rows_sp 2), a_rain_spoons] rfl rfl 22 4 rfl rfl rfl hl.1 rfl (Nat.le_of_ble_eq_true rfl) dX1_restore_32 ⟨Nat.zero_le _, Nat.zero_le _⟩ (fun H locs hP hD hS => ?_)
      have hPD : PD D A [(a_hist, .inr (1, [.ref a_hist_rows, .int hist_known, .int s1_19])), (a_hist_rows, .inl (cR, 10, .inr (.inr (.inr (.inr (fun j => some (a_rows j))))))), (a_rows 0, .inr (4, [.ref a_house, .ref (a_rows_sp 0), .int (rows_springs 0), .int (rows_lost 0)])), (a_rows_sp 0, .inl (cI, 49, .inl (rows_sp 0))), (a_rows 1, .inr (4, [.ref a_house, .ref (a_rows_sp 1), .int (rows_springs 1), .int (rows_lost 1)])), (a_rows_sp 1, .inl (cI, 49, .inl (rows_sp 1))), (a_rows 2, .inr (4, [.ref a_house, .ref (a_rows_sp 2), .int (rows_springs 2), .int (rows_lost 2)])), (a_rows_sp 2, .inl (cI, 49, .inl (rows_sp 2))), (a_rows 3, .inr (4, [.ref a_house, .ref (a_rows_sp 3), .int (rows_springs 3), .int (rows_lost 3)])), (a_rows_sp 3, .inl (cI, 49, .inl (rows_sp 3))), (a_rows 4, .inr (4, [.ref a_house, .ref (a_rows_sp 4), .int (rows_springs 4), .int (rows_lost 4)])), (a_rows_sp 4, .inl (cI, 49, .inl (rows_sp 4))), (a_rows 5, .inr (4, [.ref a_house, .ref (a_rows_sp 5), .int (rows_springs 5), .int (rows_lost 5)])), (a_rows_sp 5, .inl (cI, 49, .inl (rows_sp 5))), (a_rows 6, .inr (4, [.ref a_house, .ref (a_rows_sp 6), .int (rows_springs 6), .int (rows_lost 6)])), (a_rows_sp 6, .inl (cI, 49, .inl (rows_sp 6))), (a_rows 7, .inr (4, [.ref a_house, .ref (a_rows_sp 7), .int (rows_springs 7), .int (rows_lost 7)])), (a_rows_sp 7, .inl (cI, 49, .inl (rows_sp 7))), (a_rows 8, .inr (4, [.ref a_house, .ref (a_rows_sp 8), .int (rows_springs 8), .int (rows_lost 8)])), (a_rows_sp 8, .inl (cI, 49, .inl (rows_sp 8))), (a_rows 9, .inr (4, [.ref a_house, .ref (a_rows_sp 9), .int (rows_springs 9), .int (rows_lost 9)])), (a_rows_sp 9, .inl (cI, 49, .inl (rows_sp 9))), (a_rain, .inr (4, [.ref a_house, .ref a_rain_spoons, .int u4.1, .int u4.2.1])), (a_rain_spoons, .inl (cI, 49, .inl u4.2.2))] H := ⟨hP, hD⟩
      obtain ⟨hP, hD⟩ := hPD
      refine lv_aload_n hx hb dX1_restore_35 rfl (lv_at hl 0 rfl) ?_
      refine lv_dup hx hb dX1_restore_36 rfl ?_
      refine va_get (D := D) (ci := 1) (v := .int hist_known) (C := RX1) (T := TX1) (N := 3) hx hb hts hiX1_restore_1 hown hE.1 hP 0 rfl rfl 1 (by decide) fL28 (fun _ h9 => h9) rfl dX1_restore_37 ?_
      refine lv_iconst (v := 1) hx hb dX1_restore_40 (by decide) ?_
      refine lv_isub hx hb dX1_restore_41 ?_
      refine va_put (D := D) (ci := 1) (v := .int (hist_known - 1)) (ty := .int) (C := RX1) (T := TX1) (N := 3) hx hb hts hiX1_restore_1 tyX1 tyX1_ok nmX1 hown hE.1 hP hD hS 0 rfl rfl 1 (by decide) fL28 (fun _ h9 => h9) rfl (tyX1_ok 1 (by decide)) rfl rfl (Nat.le_of_ble_eq_true rfl) dX1_restore_42 (fun H locs hP hD hS => ?_)
      have hPD : PD D A [(a_hist, .inr (1, [.ref a_hist_rows, .int (hist_known - 1), .int s1_19])), (a_hist_rows, .inl (cR, 10, .inr (.inr (.inr (.inr (fun j => some (a_rows j))))))), (a_rows 0, .inr (4, [.ref a_house, .ref (a_rows_sp 0), .int (rows_springs 0), .int (rows_lost 0)])), (a_rows_sp 0, .inl (cI, 49, .inl (rows_sp 0))), (a_rows 1, .inr (4, [.ref a_house, .ref (a_rows_sp 1), .int (rows_springs 1), .int (rows_lost 1)])), (a_rows_sp 1, .inl (cI, 49, .inl (rows_sp 1))), (a_rows 2, .inr (4, [.ref a_house, .ref (a_rows_sp 2), .int (rows_springs 2), .int (rows_lost 2)])), (a_rows_sp 2, .inl (cI, 49, .inl (rows_sp 2))), (a_rows 3, .inr (4, [.ref a_house, .ref (a_rows_sp 3), .int (rows_springs 3), .int (rows_lost 3)])), (a_rows_sp 3, .inl (cI, 49, .inl (rows_sp 3))), (a_rows 4, .inr (4, [.ref a_house, .ref (a_rows_sp 4), .int (rows_springs 4), .int (rows_lost 4)])), (a_rows_sp 4, .inl (cI, 49, .inl (rows_sp 4))), (a_rows 5, .inr (4, [.ref a_house, .ref (a_rows_sp 5), .int (rows_springs 5), .int (rows_lost 5)])), (a_rows_sp 5, .inl (cI, 49, .inl (rows_sp 5))), (a_rows 6, .inr (4, [.ref a_house, .ref (a_rows_sp 6), .int (rows_springs 6), .int (rows_lost 6)])), (a_rows_sp 6, .inl (cI, 49, .inl (rows_sp 6))), (a_rows 7, .inr (4, [.ref a_house, .ref (a_rows_sp 7), .int (rows_springs 7), .int (rows_lost 7)])), (a_rows_sp 7, .inl (cI, 49, .inl (rows_sp 7))), (a_rows 8, .inr (4, [.ref a_house, .ref (a_rows_sp 8), .int (rows_springs 8), .int (rows_lost 8)])), (a_rows_sp 8, .inl (cI, 49, .inl (rows_sp 8))), (a_rows 9, .inr (4, [.ref a_house, .ref (a_rows_sp 9), .int (rows_springs 9), .int (rows_lost 9)])), (a_rows_sp 9, .inl (cI, 49, .inl (rows_sp 9))), (a_rain, .inr (4, [.ref a_house, .ref a_rain_spoons, .int u4.1, .int u4.2.1])), (a_rain_spoons, .inl (cI, 49, .inl u4.2.2))] H := ⟨hP, hD⟩
      obtain ⟨hP, hD⟩ := hPD
      have he := Option.some.inj hf
      subst he
      exact hret _ _ _ _ dX1_restore_45 hP hD hS
    · rw [hj] at hf
      refine va_aldq hx hb hE.1 hP 1 2 rfl rfl (ix_in hc1) dX1_restore_31 ?_
      refine W.eq (g2 := F0 m 32 ls [.ref (a_rows 3), .ref a_rain]) (by rw [hj]; rfl) ?_
      obtain ⟨u5, hu5, hf⟩ := bd_some hf
      refine cl_vN (As := [.ref (a_rows 3)]) (rest := []) ⟨hx, hb, hml, hown, hts⟩ (c_X4_become l D cI cZ cR a_rain (a_rows 3) (a_rows_sp 3) a_rain_spoons a_house a_house (rows_springs 3) (rows_lost 3) rain_springs rain_lost (rows_sp 3) rain_spoons  u5 hu5) (cw_X1_restore_X4_become_24 hE hts) hE hP hD hS hA [8, 22, 9, 23] rfl rfl [(a_rows 3), a_rain, (a_rows_sp 3), a_rain_spoons] rfl rfl 22 4 rfl rfl rfl hl.1 rfl (Nat.le_of_ble_eq_true rfl) dX1_restore_32 ⟨Nat.zero_le _, Nat.zero_le _⟩ (fun H locs hP hD hS => ?_)
      have hPD : PD D A [(a_hist, .inr (1, [.ref a_hist_rows, .int hist_known, .int s1_19])), (a_hist_rows, .inl (cR, 10, .inr (.inr (.inr (.inr (fun j => some (a_rows j))))))), (a_rows 0, .inr (4, [.ref a_house, .ref (a_rows_sp 0), .int (rows_springs 0), .int (rows_lost 0)])), (a_rows_sp 0, .inl (cI, 49, .inl (rows_sp 0))), (a_rows 1, .inr (4, [.ref a_house, .ref (a_rows_sp 1), .int (rows_springs 1), .int (rows_lost 1)])), (a_rows_sp 1, .inl (cI, 49, .inl (rows_sp 1))), (a_rows 2, .inr (4, [.ref a_house, .ref (a_rows_sp 2), .int (rows_springs 2), .int (rows_lost 2)])), (a_rows_sp 2, .inl (cI, 49, .inl (rows_sp 2))), (a_rows 3, .inr (4, [.ref a_house, .ref (a_rows_sp 3), .int (rows_springs 3), .int (rows_lost 3)])), (a_rows_sp 3, .inl (cI, 49, .inl (rows_sp 3))), (a_rows 4, .inr (4, [.ref a_house, .ref (a_rows_sp 4), .int (rows_springs 4), .int (rows_lost 4)])), (a_rows_sp 4, .inl (cI, 49, .inl (rows_sp 4))), (a_rows 5, .inr (4, [.ref a_house, .ref (a_rows_sp 5), .int (rows_springs 5), .int (rows_lost 5)])), (a_rows_sp 5, .inl (cI, 49, .inl (rows_sp 5))), (a_rows 6, .inr (4, [.ref a_house, .ref (a_rows_sp 6), .int (rows_springs 6), .int (rows_lost 6)])), (a_rows_sp 6, .inl (cI, 49, .inl (rows_sp 6))), (a_rows 7, .inr (4, [.ref a_house, .ref (a_rows_sp 7), .int (rows_springs 7), .int (rows_lost 7)])), (a_rows_sp 7, .inl (cI, 49, .inl (rows_sp 7))), (a_rows 8, .inr (4, [.ref a_house, .ref (a_rows_sp 8), .int (rows_springs 8), .int (rows_lost 8)])), (a_rows_sp 8, .inl (cI, 49, .inl (rows_sp 8))), (a_rows 9, .inr (4, [.ref a_house, .ref (a_rows_sp 9), .int (rows_springs 9), .int (rows_lost 9)])), (a_rows_sp 9, .inl (cI, 49, .inl (rows_sp 9))), (a_rain, .inr (4, [.ref a_house, .ref a_rain_spoons, .int u5.1, .int u5.2.1])), (a_rain_spoons, .inl (cI, 49, .inl u5.2.2))] H := ⟨hP, hD⟩
      obtain ⟨hP, hD⟩ := hPD
      refine lv_aload_n hx hb dX1_restore_35 rfl (lv_at hl 0 rfl) ?_
      refine lv_dup hx hb dX1_restore_36 rfl ?_
      refine va_get (D := D) (ci := 1) (v := .int hist_known) (C := RX1) (T := TX1) (N := 3) hx hb hts hiX1_restore_1 hown hE.1 hP 0 rfl rfl 1 (by decide) fL28 (fun _ h9 => h9) rfl dX1_restore_37 ?_
      refine lv_iconst (v := 1) hx hb dX1_restore_40 (by decide) ?_
      refine lv_isub hx hb dX1_restore_41 ?_
      refine va_put (D := D) (ci := 1) (v := .int (hist_known - 1)) (ty := .int) (C := RX1) (T := TX1) (N := 3) hx hb hts hiX1_restore_1 tyX1 tyX1_ok nmX1 hown hE.1 hP hD hS 0 rfl rfl 1 (by decide) fL28 (fun _ h9 => h9) rfl (tyX1_ok 1 (by decide)) rfl rfl (Nat.le_of_ble_eq_true rfl) dX1_restore_42 (fun H locs hP hD hS => ?_)
      have hPD : PD D A [(a_hist, .inr (1, [.ref a_hist_rows, .int (hist_known - 1), .int s1_19])), (a_hist_rows, .inl (cR, 10, .inr (.inr (.inr (.inr (fun j => some (a_rows j))))))), (a_rows 0, .inr (4, [.ref a_house, .ref (a_rows_sp 0), .int (rows_springs 0), .int (rows_lost 0)])), (a_rows_sp 0, .inl (cI, 49, .inl (rows_sp 0))), (a_rows 1, .inr (4, [.ref a_house, .ref (a_rows_sp 1), .int (rows_springs 1), .int (rows_lost 1)])), (a_rows_sp 1, .inl (cI, 49, .inl (rows_sp 1))), (a_rows 2, .inr (4, [.ref a_house, .ref (a_rows_sp 2), .int (rows_springs 2), .int (rows_lost 2)])), (a_rows_sp 2, .inl (cI, 49, .inl (rows_sp 2))), (a_rows 3, .inr (4, [.ref a_house, .ref (a_rows_sp 3), .int (rows_springs 3), .int (rows_lost 3)])), (a_rows_sp 3, .inl (cI, 49, .inl (rows_sp 3))), (a_rows 4, .inr (4, [.ref a_house, .ref (a_rows_sp 4), .int (rows_springs 4), .int (rows_lost 4)])), (a_rows_sp 4, .inl (cI, 49, .inl (rows_sp 4))), (a_rows 5, .inr (4, [.ref a_house, .ref (a_rows_sp 5), .int (rows_springs 5), .int (rows_lost 5)])), (a_rows_sp 5, .inl (cI, 49, .inl (rows_sp 5))), (a_rows 6, .inr (4, [.ref a_house, .ref (a_rows_sp 6), .int (rows_springs 6), .int (rows_lost 6)])), (a_rows_sp 6, .inl (cI, 49, .inl (rows_sp 6))), (a_rows 7, .inr (4, [.ref a_house, .ref (a_rows_sp 7), .int (rows_springs 7), .int (rows_lost 7)])), (a_rows_sp 7, .inl (cI, 49, .inl (rows_sp 7))), (a_rows 8, .inr (4, [.ref a_house, .ref (a_rows_sp 8), .int (rows_springs 8), .int (rows_lost 8)])), (a_rows_sp 8, .inl (cI, 49, .inl (rows_sp 8))), (a_rows 9, .inr (4, [.ref a_house, .ref (a_rows_sp 9), .int (rows_springs 9), .int (rows_lost 9)])), (a_rows_sp 9, .inl (cI, 49, .inl (rows_sp 9))), (a_rain, .inr (4, [.ref a_house, .ref a_rain_spoons, .int u5.1, .int u5.2.1])), (a_rain_spoons, .inl (cI, 49, .inl u5.2.2))] H := ⟨hP, hD⟩
      obtain ⟨hP, hD⟩ := hPD
      have he := Option.some.inj hf
      subst he
      exact hret _ _ _ _ dX1_restore_45 hP hD hS
    · rw [hj] at hf
      refine va_aldq hx hb hE.1 hP 1 2 rfl rfl (ix_in hc1) dX1_restore_31 ?_
      refine W.eq (g2 := F0 m 32 ls [.ref (a_rows 4), .ref a_rain]) (by rw [hj]; rfl) ?_
      obtain ⟨u6, hu6, hf⟩ := bd_some hf
      refine cl_vN (As := [.ref (a_rows 4)]) (rest := []) ⟨hx, hb, hml, hown, hts⟩ (c_X4_become l D cI cZ cR a_rain (a_rows 4) (a_rows_sp 4) a_rain_spoons a_house a_house (rows_springs 4) (rows_lost 4) rain_springs rain_lost (rows_sp 4) rain_spoons  u6 hu6) (cw_X1_restore_X4_become_24 hE hts) hE hP hD hS hA [10, 22, 11, 23] rfl rfl [(a_rows 4), a_rain, (a_rows_sp 4), a_rain_spoons] rfl rfl 22 4 rfl rfl rfl hl.1 rfl (Nat.le_of_ble_eq_true rfl) dX1_restore_32 ⟨Nat.zero_le _, Nat.zero_le _⟩ (fun H locs hP hD hS => ?_)
      have hPD : PD D A [(a_hist, .inr (1, [.ref a_hist_rows, .int hist_known, .int s1_19])), (a_hist_rows, .inl (cR, 10, .inr (.inr (.inr (.inr (fun j => some (a_rows j))))))), (a_rows 0, .inr (4, [.ref a_house, .ref (a_rows_sp 0), .int (rows_springs 0), .int (rows_lost 0)])), (a_rows_sp 0, .inl (cI, 49, .inl (rows_sp 0))), (a_rows 1, .inr (4, [.ref a_house, .ref (a_rows_sp 1), .int (rows_springs 1), .int (rows_lost 1)])), (a_rows_sp 1, .inl (cI, 49, .inl (rows_sp 1))), (a_rows 2, .inr (4, [.ref a_house, .ref (a_rows_sp 2), .int (rows_springs 2), .int (rows_lost 2)])), (a_rows_sp 2, .inl (cI, 49, .inl (rows_sp 2))), (a_rows 3, .inr (4, [.ref a_house, .ref (a_rows_sp 3), .int (rows_springs 3), .int (rows_lost 3)])), (a_rows_sp 3, .inl (cI, 49, .inl (rows_sp 3))), (a_rows 4, .inr (4, [.ref a_house, .ref (a_rows_sp 4), .int (rows_springs 4), .int (rows_lost 4)])), (a_rows_sp 4, .inl (cI, 49, .inl (rows_sp 4))), (a_rows 5, .inr (4, [.ref a_house, .ref (a_rows_sp 5), .int (rows_springs 5), .int (rows_lost 5)])), (a_rows_sp 5, .inl (cI, 49, .inl (rows_sp 5))), (a_rows 6, .inr (4, [.ref a_house, .ref (a_rows_sp 6), .int (rows_springs 6), .int (rows_lost 6)])), (a_rows_sp 6, .inl (cI, 49, .inl (rows_sp 6))), (a_rows 7, .inr (4, [.ref a_house, .ref (a_rows_sp 7), .int (rows_springs 7), .int (rows_lost 7)])), (a_rows_sp 7, .inl (cI, 49, .inl (rows_sp 7))), (a_rows 8, .inr (4, [.ref a_house, .ref (a_rows_sp 8), .int (rows_springs 8), .int (rows_lost 8)])), (a_rows_sp 8, .inl (cI, 49, .inl (rows_sp 8))), (a_rows 9, .inr (4, [.ref a_house, .ref (a_rows_sp 9), .int (rows_springs 9), .int (rows_lost 9)])), (a_rows_sp 9, .inl (cI, 49, .inl (rows_sp 9))), (a_rain, .inr (4, [.ref a_house, .ref a_rain_spoons, .int u6.1, .int u6.2.1])), (a_rain_spoons, .inl (cI, 49, .inl u6.2.2))] H := ⟨hP, hD⟩
      obtain ⟨hP, hD⟩ := hPD
      refine lv_aload_n hx hb dX1_restore_35 rfl (lv_at hl 0 rfl) ?_
      refine lv_dup hx hb dX1_restore_36 rfl ?_
      refine va_get (D := D) (ci := 1) (v := .int hist_known) (C := RX1) (T := TX1) (N := 3) hx hb hts hiX1_restore_1 hown hE.1 hP 0 rfl rfl 1 (by decide) fL28 (fun _ h9 => h9) rfl dX1_restore_37 ?_
      refine lv_iconst (v := 1) hx hb dX1_restore_40 (by decide) ?_
      refine lv_isub hx hb dX1_restore_41 ?_
      refine va_put (D := D) (ci := 1) (v := .int (hist_known - 1)) (ty := .int) (C := RX1) (T := TX1) (N := 3) hx hb hts hiX1_restore_1 tyX1 tyX1_ok nmX1 hown hE.1 hP hD hS 0 rfl rfl 1 (by decide) fL28 (fun _ h9 => h9) rfl (tyX1_ok 1 (by decide)) rfl rfl (Nat.le_of_ble_eq_true rfl) dX1_restore_42 (fun H locs hP hD hS => ?_)
      have hPD : PD D A [(a_hist, .inr (1, [.ref a_hist_rows, .int (hist_known - 1), .int s1_19])), (a_hist_rows, .inl (cR, 10, .inr (.inr (.inr (.inr (fun j => some (a_rows j))))))), (a_rows 0, .inr (4, [.ref a_house, .ref (a_rows_sp 0), .int (rows_springs 0), .int (rows_lost 0)])), (a_rows_sp 0, .inl (cI, 49, .inl (rows_sp 0))), (a_rows 1, .inr (4, [.ref a_house, .ref (a_rows_sp 1), .int (rows_springs 1), .int (rows_lost 1)])), (a_rows_sp 1, .inl (cI, 49, .inl (rows_sp 1))), (a_rows 2, .inr (4, [.ref a_house, .ref (a_rows_sp 2), .int (rows_springs 2), .int (rows_lost 2)])), (a_rows_sp 2, .inl (cI, 49, .inl (rows_sp 2))), (a_rows 3, .inr (4, [.ref a_house, .ref (a_rows_sp 3), .int (rows_springs 3), .int (rows_lost 3)])), (a_rows_sp 3, .inl (cI, 49, .inl (rows_sp 3))), (a_rows 4, .inr (4, [.ref a_house, .ref (a_rows_sp 4), .int (rows_springs 4), .int (rows_lost 4)])), (a_rows_sp 4, .inl (cI, 49, .inl (rows_sp 4))), (a_rows 5, .inr (4, [.ref a_house, .ref (a_rows_sp 5), .int (rows_springs 5), .int (rows_lost 5)])), (a_rows_sp 5, .inl (cI, 49, .inl (rows_sp 5))), (a_rows 6, .inr (4, [.ref a_house, .ref (a_rows_sp 6), .int (rows_springs 6), .int (rows_lost 6)])), (a_rows_sp 6, .inl (cI, 49, .inl (rows_sp 6))), (a_rows 7, .inr (4, [.ref a_house, .ref (a_rows_sp 7), .int (rows_springs 7), .int (rows_lost 7)])), (a_rows_sp 7, .inl (cI, 49, .inl (rows_sp 7))), (a_rows 8, .inr (4, [.ref a_house, .ref (a_rows_sp 8), .int (rows_springs 8), .int (rows_lost 8)])), (a_rows_sp 8, .inl (cI, 49, .inl (rows_sp 8))), (a_rows 9, .inr (4, [.ref a_house, .ref (a_rows_sp 9), .int (rows_springs 9), .int (rows_lost 9)])), (a_rows_sp 9, .inl (cI, 49, .inl (rows_sp 9))), (a_rain, .inr (4, [.ref a_house, .ref a_rain_spoons, .int u6.1, .int u6.2.1])), (a_rain_spoons, .inl (cI, 49, .inl u6.2.2))] H := ⟨hP, hD⟩
      obtain ⟨hP, hD⟩ := hPD
      have he := Option.some.inj hf
      subst he
      exact hret _ _ _ _ dX1_restore_45 hP hD hS
    · rw [hj] at hf
      refine va_aldq hx hb hE.1 hP 1 2 rfl rfl (ix_in hc1) dX1_restore_31 ?_
      refine W.eq (g2 := F0 m 32 ls [.ref (a_rows 5), .ref a_rain]) (by rw [hj]; rfl) ?_
      obtain ⟨u7, hu7, hf⟩ := bd_some hf
      refine cl_vN (As := [.ref (a_rows 5)]) (rest := []) ⟨hx, hb, hml, hown, hts⟩ (c_X4_become l D cI cZ cR a_rain (a_rows 5) (a_rows_sp 5) a_rain_spoons a_house a_house (rows_springs 5) (rows_lost 5) rain_springs rain_lost (rows_sp 5) rain_spoons  u7 hu7) (cw_X1_restore_X4_become_24 hE hts) hE hP hD hS hA [12, 22, 13, 23] rfl rfl [(a_rows 5), a_rain, (a_rows_sp 5), a_rain_spoons] rfl rfl 22 4 rfl rfl rfl hl.1 rfl (Nat.le_of_ble_eq_true rfl) dX1_restore_32 ⟨Nat.zero_le _, Nat.zero_le _⟩ (fun H locs hP hD hS => ?_)
      have hPD : PD D A [(a_hist, .inr (1, [.ref a_hist_rows, .int hist_known, .int s1_19])), (a_hist_rows, .inl (cR, 10, .inr (.inr (.inr (.inr (fun j => some (a_rows j))))))), (a_rows 0, .inr (4, [.ref a_house, .ref (a_rows_sp 0), .int (rows_springs 0), .int (rows_lost 0)])), (a_rows_sp 0, .inl (cI, 49, .inl (rows_sp 0))), (a_rows 1, .inr (4, [.ref a_house, .ref (a_rows_sp 1), .int (rows_springs 1), .int (rows_lost 1)])), (a_rows_sp 1, .inl (cI, 49, .inl (rows_sp 1))), (a_rows 2, .inr (4, [.ref a_house, .ref (a_rows_sp 2), .int (rows_springs 2), .int (rows_lost 2)])), (a_rows_sp 2, .inl (cI, 49, .inl (rows_sp 2))), (a_rows 3, .inr (4, [.ref a_house, .ref (a_rows_sp 3), .int (rows_springs 3), .int (rows_lost 3)])), (a_rows_sp 3, .inl (cI, 49, .inl (rows_sp 3))), (a_rows 4, .inr (4, [.ref a_house, .ref (a_rows_sp 4), .int (rows_springs 4), .int (rows_lost 4)])), (a_rows_sp 4, .inl (cI, 49, .inl (rows_sp 4))), (a_rows 5, .inr (4, [.ref a_house, .ref (a_rows_sp 5), .int (rows_springs 5), .int (rows_lost 5)])), (a_rows_sp 5, .inl (cI, 49, .inl (rows_sp 5))), (a_rows 6, .inr (4, [.ref a_house, .ref (a_rows_sp 6), .int (rows_springs 6), .int (rows_lost 6)])), (a_rows_sp 6, .inl (cI, 49, .inl (rows_sp 6))), (a_rows 7, .inr (4, [.ref a_house, .ref (a_rows_sp 7), .int (rows_springs 7), .int (rows_lost 7)])), (a_rows_sp 7, .inl (cI, 49, .inl (rows_sp 7))), (a_rows 8, .inr (4, [.ref a_house, .ref (a_rows_sp 8), .int (rows_springs 8), .int (rows_lost 8)])), (a_rows_sp 8, .inl (cI, 49, .inl (rows_sp 8))), (a_rows 9, .inr (4, [.ref a_house, .ref (a_rows_sp 9), .int (rows_springs 9), .int (rows_lost 9)])), (a_rows_sp 9, .inl (cI, 49, .inl (rows_sp 9))), (a_rain, .inr (4, [.ref a_house, .ref a_rain_spoons, .int u7.1, .int u7.2.1])), (a_rain_spoons, .inl (cI, 49, .inl u7.2.2))] H := ⟨hP, hD⟩
      obtain ⟨hP, hD⟩ := hPD
      refine lv_aload_n hx hb dX1_restore_35 rfl (lv_at hl 0 rfl) ?_
      refine lv_dup hx hb dX1_restore_36 rfl ?_
      refine va_get (D := D) (ci := 1) (v := .int hist_known) (C := RX1) (T := TX1) (N := 3) hx hb hts hiX1_restore_1 hown hE.1 hP 0 rfl rfl 1 (by decide) fL28 (fun _ h9 => h9) rfl dX1_restore_37 ?_
      refine lv_iconst (v := 1) hx hb dX1_restore_40 (by decide) ?_
      refine lv_isub hx hb dX1_restore_41 ?_
      refine va_put (D := D) (ci := 1) (v := .int (hist_known - 1)) (ty := .int) (C := RX1) (T := TX1) (N := 3) hx hb hts hiX1_restore_1 tyX1 tyX1_ok nmX1 hown hE.1 hP hD hS 0 rfl rfl 1 (by decide) fL28 (fun _ h9 => h9) rfl (tyX1_ok 1 (by decide)) rfl rfl (Nat.le_of_ble_eq_true rfl) dX1_restore_42 (fun H locs hP hD hS => ?_)
      have hPD : PD D A [(a_hist, .inr (1, [.ref a_hist_rows, .int (hist_known - 1), .int s1_19])), (a_hist_rows, .inl (cR, 10, .inr (.inr (.inr (.inr (fun j => some (a_rows j))))))), (a_rows 0, .inr (4, [.ref a_house, .ref (a_rows_sp 0), .int (rows_springs 0), .int (rows_lost 0)])), (a_rows_sp 0, .inl (cI, 49, .inl (rows_sp 0))), (a_rows 1, .inr (4, [.ref a_house, .ref (a_rows_sp 1), .int (rows_springs 1), .int (rows_lost 1)])), (a_rows_sp 1, .inl (cI, 49, .inl (rows_sp 1))), (a_rows 2, .inr (4, [.ref a_house, .ref (a_rows_sp 2), .int (rows_springs 2), .int (rows_lost 2)])), (a_rows_sp 2, .inl (cI, 49, .inl (rows_sp 2))), (a_rows 3, .inr (4, [.ref a_house, .ref (a_rows_sp 3), .int (rows_springs 3), .int (rows_lost 3)])), (a_rows_sp 3, .inl (cI, 49, .inl (rows_sp 3))), (a_rows 4, .inr (4, [.ref a_house, .ref (a_rows_sp 4), .int (rows_springs 4), .int (rows_lost 4)])), (a_rows_sp 4, .inl (cI, 49, .inl (rows_sp 4))), (a_rows 5, .inr (4, [.ref a_house, .ref (a_rows_sp 5), .int (rows_springs 5), .int (rows_lost 5)])), (a_rows_sp 5, .inl (cI, 49, .inl (rows_sp 5))), (a_rows 6, .inr (4, [.ref a_house, .ref (a_rows_sp 6), .int (rows_springs 6), .int (rows_lost 6)])), (a_rows_sp 6, .inl (cI, 49, .inl (rows_sp 6))), (a_rows 7, .inr (4, [.ref a_house, .ref (a_rows_sp 7), .int (rows_springs 7), .int (rows_lost 7)])), (a_rows_sp 7, .inl (cI, 49, .inl (rows_sp 7))), (a_rows 8, .inr (4, [.ref a_house, .ref (a_rows_sp 8), .int (rows_springs 8), .int (rows_lost 8)])), (a_rows_sp 8, .inl (cI, 49, .inl (rows_sp 8))), (a_rows 9, .inr (4, [.ref a_house, .ref (a_rows_sp 9), .int (rows_springs 9), .int (rows_lost 9)])), (a_rows_sp 9, .inl (cI, 49, .inl (rows_sp 9))), (a_rain, .inr (4, [.ref a_house, .ref a_rain_spoons, .int u7.1, .int u7.2.1])), (a_rain_spoons, .inl (cI, 49, .inl u7.2.2))] H := ⟨hP, hD⟩
      obtain ⟨hP, hD⟩ := hPD
      have he := Option.some.inj hf
      subst he
      exact hret _ _ _ _ dX1_restore_45 hP hD hS
    · rw [hj] at hf
      refine va_aldq hx hb hE.1 hP 1 2 rfl rfl (ix_in hc1) dX1_restore_31 ?_
      refine W.eq (g2 := F0 m 32 ls [.ref (a_rows 6), .ref a_rain]) (by rw [hj]; rfl) ?_
      obtain ⟨u8, hu8, hf⟩ := bd_some hf
      refine cl_vN (As := [.ref (a_rows 6)]) (rest := []) ⟨hx, hb, hml, hown, hts⟩ (c_X4_become l D cI cZ cR a_rain (a_rows 6) (a_rows_sp 6) a_rain_spoons a_house a_house (rows_springs 6) (rows_lost 6) rain_springs rain_lost (rows_sp 6) rain_spoons  u8 hu8) (cw_X1_restore_X4_become_24 hE hts) hE hP hD hS hA [14, 22, 15, 23] rfl rfl [(a_rows 6), a_rain, (a_rows_sp 6), a_rain_spoons] rfl rfl 22 4 rfl rfl rfl hl.1 rfl (Nat.le_of_ble_eq_true rfl) dX1_restore_32 ⟨Nat.zero_le _, Nat.zero_le _⟩ (fun H locs hP hD hS => ?_)
      have hPD : PD D A [(a_hist, .inr (1, [.ref a_hist_rows, .int hist_known, .int s1_19])), (a_hist_rows, .inl (cR, 10, .inr (.inr (.inr (.inr (fun j => some (a_rows j))))))), (a_rows 0, .inr (4, [.ref a_house, .ref (a_rows_sp 0), .int (rows_springs 0), .int (rows_lost 0)])), (a_rows_sp 0, .inl (cI, 49, .inl (rows_sp 0))), (a_rows 1, .inr (4, [.ref a_house, .ref (a_rows_sp 1), .int (rows_springs 1), .int (rows_lost 1)])), (a_rows_sp 1, .inl (cI, 49, .inl (rows_sp 1))), (a_rows 2, .inr (4, [.ref a_house, .ref (a_rows_sp 2), .int (rows_springs 2), .int (rows_lost 2)])), (a_rows_sp 2, .inl (cI, 49, .inl (rows_sp 2))), (a_rows 3, .inr (4, [.ref a_house, .ref (a_rows_sp 3), .int (rows_springs 3), .int (rows_lost 3)])), (a_rows_sp 3, .inl (cI, 49, .inl (rows_sp 3))), (a_rows 4, .inr (4, [.ref a_house, .ref (a_rows_sp 4), .int (rows_springs 4), .int (rows_lost 4)])), (a_rows_sp 4, .inl (cI, 49, .inl (rows_sp 4))), (a_rows 5, .inr (4, [.ref a_house, .ref (a_rows_sp 5), .int (rows_springs 5), .int (rows_lost 5)])), (a_rows_sp 5, .inl (cI, 49, .inl (rows_sp 5))), (a_rows 6, .inr (4, [.ref a_house, .ref (a_rows_sp 6), .int (rows_springs 6), .int (rows_lost 6)])), (a_rows_sp 6, .inl (cI, 49, .inl (rows_sp 6))), (a_rows 7, .inr (4, [.ref a_house, .ref (a_rows_sp 7), .int (rows_springs 7), .int (rows_lost 7)])), (a_rows_sp 7, .inl (cI, 49, .inl (rows_sp 7))), (a_rows 8, .inr (4, [.ref a_house, .ref (a_rows_sp 8), .int (rows_springs 8), .int (rows_lost 8)])), (a_rows_sp 8, .inl (cI, 49, .inl (rows_sp 8))), (a_rows 9, .inr (4, [.ref a_house, .ref (a_rows_sp 9), .int (rows_springs 9), .int (rows_lost 9)])), (a_rows_sp 9, .inl (cI, 49, .inl (rows_sp 9))), (a_rain, .inr (4, [.ref a_house, .ref a_rain_spoons, .int u8.1, .int u8.2.1])), (a_rain_spoons, .inl (cI, 49, .inl u8.2.2))] H := ⟨hP, hD⟩
      obtain ⟨hP, hD⟩ := hPD
      refine lv_aload_n hx hb dX1_restore_35 rfl (lv_at hl 0 rfl) ?_
      refine lv_dup hx hb dX1_restore_36 rfl ?_
      refine va_get (D := D) (ci := 1) (v := .int hist_known) (C := RX1) (T := TX1) (N := 3) hx hb hts hiX1_restore_1 hown hE.1 hP 0 rfl rfl 1 (by decide) fL28 (fun _ h9 => h9) rfl dX1_restore_37 ?_
      refine lv_iconst (v := 1) hx hb dX1_restore_40 (by decide) ?_
      refine lv_isub hx hb dX1_restore_41 ?_
      refine va_put (D := D) (ci := 1) (v := .int (hist_known - 1)) (ty := .int) (C := RX1) (T := TX1) (N := 3) hx hb hts hiX1_restore_1 tyX1 tyX1_ok nmX1 hown hE.1 hP hD hS 0 rfl rfl 1 (by decide) fL28 (fun _ h9 => h9) rfl (tyX1_ok 1 (by decide)) rfl rfl (Nat.le_of_ble_eq_true rfl) dX1_restore_42 (fun H locs hP hD hS => ?_)
      have hPD : PD D A [(a_hist, .inr (1, [.ref a_hist_rows, .int (hist_known - 1), .int s1_19])), (a_hist_rows, .inl (cR, 10, .inr (.inr (.inr (.inr (fun j => some (a_rows j))))))), (a_rows 0, .inr (4, [.ref a_house, .ref (a_rows_sp 0), .int (rows_springs 0), .int (rows_lost 0)])), (a_rows_sp 0, .inl (cI, 49, .inl (rows_sp 0))), (a_rows 1, .inr (4, [.ref a_house, .ref (a_rows_sp 1), .int (rows_springs 1), .int (rows_lost 1)])), (a_rows_sp 1, .inl (cI, 49, .inl (rows_sp 1))), (a_rows 2, .inr (4, [.ref a_house, .ref (a_rows_sp 2), .int (rows_springs 2), .int (rows_lost 2)])), (a_rows_sp 2, .inl (cI, 49, .inl (rows_sp 2))), (a_rows 3, .inr (4, [.ref a_house, .ref (a_rows_sp 3), .int (rows_springs 3), .int (rows_lost 3)])), (a_rows_sp 3, .inl (cI, 49, .inl (rows_sp 3))), (a_rows 4, .inr (4, [.ref a_house, .ref (a_rows_sp 4), .int (rows_springs 4), .int (rows_lost 4)])), (a_rows_sp 4, .inl (cI, 49, .inl (rows_sp 4))), (a_rows 5, .inr (4, [.ref a_house, .ref (a_rows_sp 5), .int (rows_springs 5), .int (rows_lost 5)])), (a_rows_sp 5, .inl (cI, 49, .inl (rows_sp 5))), (a_rows 6, .inr (4, [.ref a_house, .ref (a_rows_sp 6), .int (rows_springs 6), .int (rows_lost 6)])), (a_rows_sp 6, .inl (cI, 49, .inl (rows_sp 6))), (a_rows 7, .inr (4, [.ref a_house, .ref (a_rows_sp 7), .int (rows_springs 7), .int (rows_lost 7)])), (a_rows_sp 7, .inl (cI, 49, .inl (rows_sp 7))), (a_rows 8, .inr (4, [.ref a_house, .ref (a_rows_sp 8), .int (rows_springs 8), .int (rows_lost 8)])), (a_rows_sp 8, .inl (cI, 49, .inl (rows_sp 8))), (a_rows 9, .inr (4, [.ref a_house, .ref (a_rows_sp 9), .int (rows_springs 9), .int (rows_lost 9)])), (a_rows_sp 9, .inl (cI, 49, .inl (rows_sp 9))), (a_rain, .inr (4, [.ref a_house, .ref a_rain_spoons, .int u8.1, .int u8.2.1])), (a_rain_spoons, .inl (cI, 49, .inl u8.2.2))] H := ⟨hP, hD⟩
      obtain ⟨hP, hD⟩ := hPD
      have he := Option.some.inj hf
      subst he
      exact hret _ _ _ _ dX1_restore_45 hP hD hS
    · rw [hj] at hf
      refine va_aldq hx hb hE.1 hP 1 2 rfl rfl (ix_in hc1) dX1_restore_31 ?_
      refine W.eq (g2 := F0 m 32 ls [.ref (a_rows 7), .ref a_rain]) (by rw [hj]; rfl) ?_
      obtain ⟨u9, hu9, hf⟩ := bd_some hf
      refine cl_vN (As := [.ref (a_rows 7)]) (rest := []) ⟨hx, hb, hml, hown, hts⟩ (c_X4_become l D cI cZ cR a_rain (a_rows 7) (a_rows_sp 7) a_rain_spoons a_house a_house (rows_springs 7) (rows_lost 7) rain_springs rain_lost (rows_sp 7) rain_spoons  u9 hu9) (cw_X1_restore_X4_become_24 hE hts) hE hP hD hS hA [16, 22, 17, 23] rfl rfl [(a_rows 7), a_rain, (a_rows_sp 7), a_rain_spoons] rfl rfl 22 4 rfl rfl rfl hl.1 rfl (Nat.le_of_ble_eq_true rfl) dX1_restore_32 ⟨Nat.zero_le _, Nat.zero_le _⟩ (fun H locs hP hD hS => ?_)
      have hPD : PD D A [(a_hist, .inr (1, [.ref a_hist_rows, .int hist_known, .int s1_19])), (a_hist_rows, .inl (cR, 10, .inr (.inr (.inr (.inr (fun j => some (a_rows j))))))), (a_rows 0, .inr (4, [.ref a_house, .ref (a_rows_sp 0), .int (rows_springs 0), .int (rows_lost 0)])), (a_rows_sp 0, .inl (cI, 49, .inl (rows_sp 0))), (a_rows 1, .inr (4, [.ref a_house, .ref (a_rows_sp 1), .int (rows_springs 1), .int (rows_lost 1)])), (a_rows_sp 1, .inl (cI, 49, .inl (rows_sp 1))), (a_rows 2, .inr (4, [.ref a_house, .ref (a_rows_sp 2), .int (rows_springs 2), .int (rows_lost 2)])), (a_rows_sp 2, .inl (cI, 49, .inl (rows_sp 2))), (a_rows 3, .inr (4, [.ref a_house, .ref (a_rows_sp 3), .int (rows_springs 3), .int (rows_lost 3)])), (a_rows_sp 3, .inl (cI, 49, .inl (rows_sp 3))), (a_rows 4, .inr (4, [.ref a_house, .ref (a_rows_sp 4), .int (rows_springs 4), .int (rows_lost 4)])), (a_rows_sp 4, .inl (cI, 49, .inl (rows_sp 4))), (a_rows 5, .inr (4, [.ref a_house, .ref (a_rows_sp 5), .int (rows_springs 5), .int (rows_lost 5)])), (a_rows_sp 5, .inl (cI, 49, .inl (rows_sp 5))), (a_rows 6, .inr (4, [.ref a_house, .ref (a_rows_sp 6), .int (rows_springs 6), .int (rows_lost 6)])), (a_rows_sp 6, .inl (cI, 49, .inl (rows_sp 6))), (a_rows 7, .inr (4, [.ref a_house, .ref (a_rows_sp 7), .int (rows_springs 7), .int (rows_lost 7)])), (a_rows_sp 7, .inl (cI, 49, .inl (rows_sp 7))), (a_rows 8, .inr (4, [.ref a_house, .ref (a_rows_sp 8), .int (rows_springs 8), .int (rows_lost 8)])), (a_rows_sp 8, .inl (cI, 49, .inl (rows_sp 8))), (a_rows 9, .inr (4, [.ref a_house, .ref (a_rows_sp 9), .int (rows_springs 9), .int (rows_lost 9)])), (a_rows_sp 9, .inl (cI, 49, .inl (rows_sp 9))), (a_rain, .inr (4, [.ref a_house, .ref a_rain_spoons, .int u9.1, .int u9.2.1])), (a_rain_spoons, .inl (cI, 49, .inl u9.2.2))] H := ⟨hP, hD⟩
      obtain ⟨hP, hD⟩ := hPD
      refine lv_aload_n hx hb dX1_restore_35 rfl (lv_at hl 0 rfl) ?_
      refine lv_dup hx hb dX1_restore_36 rfl ?_
      refine va_get (D := D) (ci := 1) (v := .int hist_known) (C := RX1) (T := TX1) (N := 3) hx hb hts hiX1_restore_1 hown hE.1 hP 0 rfl rfl 1 (by decide) fL28 (fun _ h9 => h9) rfl dX1_restore_37 ?_
      refine lv_iconst (v := 1) hx hb dX1_restore_40 (by decide) ?_
      refine lv_isub hx hb dX1_restore_41 ?_
      refine va_put (D := D) (ci := 1) (v := .int (hist_known - 1)) (ty := .int) (C := RX1) (T := TX1) (N := 3) hx hb hts hiX1_restore_1 tyX1 tyX1_ok nmX1 hown hE.1 hP hD hS 0 rfl rfl 1 (by decide) fL28 (fun _ h9 => h9) rfl (tyX1_ok 1 (by decide)) rfl rfl (Nat.le_of_ble_eq_true rfl) dX1_restore_42 (fun H locs hP hD hS => ?_)
      have hPD : PD D A [(a_hist, .inr (1, [.ref a_hist_rows, .int (hist_known - 1), .int s1_19])), (a_hist_rows, .inl (cR, 10, .inr (.inr (.inr (.inr (fun j => some (a_rows j))))))), (a_rows 0, .inr (4, [.ref a_house, .ref (a_rows_sp 0), .int (rows_springs 0), .int (rows_lost 0)])), (a_rows_sp 0, .inl (cI, 49, .inl (rows_sp 0))), (a_rows 1, .inr (4, [.ref a_house, .ref (a_rows_sp 1), .int (rows_springs 1), .int (rows_lost 1)])), (a_rows_sp 1, .inl (cI, 49, .inl (rows_sp 1))), (a_rows 2, .inr (4, [.ref a_house, .ref (a_rows_sp 2), .int (rows_springs 2), .int (rows_lost 2)])), (a_rows_sp 2, .inl (cI, 49, .inl (rows_sp 2))), (a_rows 3, .inr (4, [.ref a_house, .ref (a_rows_sp 3), .int (rows_springs 3), .int (rows_lost 3)])), (a_rows_sp 3, .inl (cI, 49, .inl (rows_sp 3))), (a_rows 4, .inr (4, [.ref a_house, .ref (a_rows_sp 4), .int (rows_springs 4), .int (rows_lost 4)])), (a_rows_sp 4, .inl (cI, 49, .inl (rows_sp 4))), (a_rows 5, .inr (4, [.ref a_house, .ref (a_rows_sp 5), .int (rows_springs 5), .int (rows_lost 5)])), (a_rows_sp 5, .inl (cI, 49, .inl (rows_sp 5))), (a_rows 6, .inr (4, [.ref a_house, .ref (a_rows_sp 6), .int (rows_springs 6), .int (rows_lost 6)])), (a_rows_sp 6, .inl (cI, 49, .inl (rows_sp 6))), (a_rows 7, .inr (4, [.ref a_house, .ref (a_rows_sp 7), .int (rows_springs 7), .int (rows_lost 7)])), (a_rows_sp 7, .inl (cI, 49, .inl (rows_sp 7))), (a_rows 8, .inr (4, [.ref a_house, .ref (a_rows_sp 8), .int (rows_springs 8), .int (rows_lost 8)])), (a_rows_sp 8, .inl (cI, 49, .inl (rows_sp 8))), (a_rows 9, .inr (4, [.ref a_house, .ref (a_rows_sp 9), .int (rows_springs 9), .int (rows_lost 9)])), (a_rows_sp 9, .inl (cI, 49, .inl (rows_sp 9))), (a_rain, .inr (4, [.ref a_house, .ref a_rain_spoons, .int u9.1, .int u9.2.1])), (a_rain_spoons, .inl (cI, 49, .inl u9.2.2))] H := ⟨hP, hD⟩
      obtain ⟨hP, hD⟩ := hPD
      have he := Option.some.inj hf
      subst he
      exact hret _ _ _ _ dX1_restore_45 hP hD hS
    · rw [hj] at hf
      refine va_aldq hx hb hE.1 hP 1 2 rfl rfl (ix_in hc1) dX1_restore_31 ?_
      refine W.eq (g2 := F0 m 32 ls [.ref (a_rows 8), .ref a_rain]) (by rw [hj]; rfl) ?_
      obtain ⟨u10, hu10, hf⟩ := bd_some hf
      refine cl_vN (As := [.ref (a_rows 8)]) (rest := []) ⟨hx, hb, hml, hown, hts⟩ (c_X4_become l D cI cZ cR a_rain (a_rows 8) (a_rows_sp 8) a_rain_spoons a_house a_house (rows_springs 8) (rows_lost 8) rain_springs rain_lost (rows_sp 8) rain_spoons  u10 hu10) (cw_X1_restore_X4_become_24 hE hts) hE hP hD hS hA [18, 22, 19, 23] rfl rfl [(a_rows 8), a_rain, (a_rows_sp 8), a_rain_spoons] rfl rfl 22 4 rfl rfl rfl hl.1 rfl (Nat.le_of_ble_eq_true rfl) dX1_restore_32 ⟨Nat.zero_le _, Nat.zero_le _⟩ (fun H locs hP hD hS => ?_)
      have hPD : PD D A [(a_hist, .inr (1, [.ref a_hist_rows, .int hist_known, .int s1_19])), (a_hist_rows, .inl (cR, 10, .inr (.inr (.inr (.inr (fun j => some (a_rows j))))))), (a_rows 0, .inr (4, [.ref a_house, .ref (a_rows_sp 0), .int (rows_springs 0), .int (rows_lost 0)])), (a_rows_sp 0, .inl (cI, 49, .inl (rows_sp 0))), (a_rows 1, .inr (4, [.ref a_house, .ref (a_rows_sp 1), .int (rows_springs 1), .int (rows_lost 1)])), (a_rows_sp 1, .inl (cI, 49, .inl (rows_sp 1))), (a_rows 2, .inr (4, [.ref a_house, .ref (a_rows_sp 2), .int (rows_springs 2), .int (rows_lost 2)])), (a_rows_sp 2, .inl (cI, 49, .inl (rows_sp 2))), (a_rows 3, .inr (4, [.ref a_house, .ref (a_rows_sp 3), .int (rows_springs 3), .int (rows_lost 3)])), (a_rows_sp 3, .inl (cI, 49, .inl (rows_sp 3))), (a_rows 4, .inr (4, [.ref a_house, .ref (a_rows_sp 4), .int (rows_springs 4), .int (rows_lost 4)])), (a_rows_sp 4, .inl (cI, 49, .inl (rows_sp 4))), (a_rows 5, .inr (4, [.ref a_house, .ref (a_rows_sp 5), .int (rows_springs 5), .int (rows_lost 5)])), (a_rows_sp 5, .inl (cI, 49, .inl (rows_sp 5))), (a_rows 6, .inr (4, [.ref a_house, .ref (a_rows_sp 6), .int (rows_springs 6), .int (rows_lost 6)])), (a_rows_sp 6, .inl (cI, 49, .inl (rows_sp 6))), (a_rows 7, .inr (4, [.ref a_house, .ref (a_rows_sp 7), .int (rows_springs 7), .int (rows_lost 7)])), (a_rows_sp 7, .inl (cI, 49, .inl (rows_sp 7))), (a_rows 8, .inr (4, [.ref a_house, .ref (a_rows_sp 8), .int (rows_springs 8), .int (rows_lost 8)])), (a_rows_sp 8, .inl (cI, 49, .inl (rows_sp 8))), (a_rows 9, .inr (4, [.ref a_house, .ref (a_rows_sp 9), .int (rows_springs 9), .int (rows_lost 9)])), (a_rows_sp 9, .inl (cI, 49, .inl (rows_sp 9))), (a_rain, .inr (4, [.ref a_house, .ref a_rain_spoons, .int u10.1, .int u10.2.1])), (a_rain_spoons, .inl (cI, 49, .inl u10.2.2))] H := ⟨hP, hD⟩
      obtain ⟨hP, hD⟩ := hPD
      refine lv_aload_n hx hb dX1_restore_35 rfl (lv_at hl 0 rfl) ?_
      refine lv_dup hx hb dX1_restore_36 rfl ?_
      refine va_get (D := D) (ci := 1) (v := .int hist_known) (C := RX1) (T := TX1) (N := 3) hx hb hts hiX1_restore_1 hown hE.1 hP 0 rfl rfl 1 (by decide) fL28 (fun _ h9 => h9) rfl dX1_restore_37 ?_
      refine lv_iconst (v := 1) hx hb dX1_restore_40 (by decide) ?_
      refine lv_isub hx hb dX1_restore_41 ?_
      refine va_put (D := D) (ci := 1) (v := .int (hist_known - 1)) (ty := .int) (C := RX1) (T := TX1) (N := 3) hx hb hts hiX1_restore_1 tyX1 tyX1_ok nmX1 hown hE.1 hP hD hS 0 rfl rfl 1 (by decide) fL28 (fun _ h9 => h9) rfl (tyX1_ok 1 (by decide)) rfl rfl (Nat.le_of_ble_eq_true rfl) dX1_restore_42 (fun H locs hP hD hS => ?_)
      have hPD : PD D A [(a_hist, .inr (1, [.ref a_hist_rows, .int (hist_known - 1), .int s1_19])), (a_hist_rows, .inl (cR, 10, .inr (.inr (.inr (.inr (fun j => some (a_rows j))))))), (a_rows 0, .inr (4, [.ref a_house, .ref (a_rows_sp 0), .int (rows_springs 0), .int (rows_lost 0)])), (a_rows_sp 0, .inl (cI, 49, .inl (rows_sp 0))), (a_rows 1, .inr (4, [.ref a_house, .ref (a_rows_sp 1), .int (rows_springs 1), .int (rows_lost 1)])), (a_rows_sp 1, .inl (cI, 49, .inl (rows_sp 1))), (a_rows 2, .inr (4, [.ref a_house, .ref (a_rows_sp 2), .int (rows_springs 2), .int (rows_lost 2)])), (a_rows_sp 2, .inl (cI, 49, .inl (rows_sp 2))), (a_rows 3, .inr (4, [.ref a_house, .ref (a_rows_sp 3), .int (rows_springs 3), .int (rows_lost 3)])), (a_rows_sp 3, .inl (cI, 49, .inl (rows_sp 3))), (a_rows 4, .inr (4, [.ref a_house, .ref (a_rows_sp 4), .int (rows_springs 4), .int (rows_lost 4)])), (a_rows_sp 4, .inl (cI, 49, .inl (rows_sp 4))), (a_rows 5, .inr (4, [.ref a_house, .ref (a_rows_sp 5), .int (rows_springs 5), .int (rows_lost 5)])), (a_rows_sp 5, .inl (cI, 49, .inl (rows_sp 5))), (a_rows 6, .inr (4, [.ref a_house, .ref (a_rows_sp 6), .int (rows_springs 6), .int (rows_lost 6)])), (a_rows_sp 6, .inl (cI, 49, .inl (rows_sp 6))), (a_rows 7, .inr (4, [.ref a_house, .ref (a_rows_sp 7), .int (rows_springs 7), .int (rows_lost 7)])), (a_rows_sp 7, .inl (cI, 49, .inl (rows_sp 7))), (a_rows 8, .inr (4, [.ref a_house, .ref (a_rows_sp 8), .int (rows_springs 8), .int (rows_lost 8)])), (a_rows_sp 8, .inl (cI, 49, .inl (rows_sp 8))), (a_rows 9, .inr (4, [.ref a_house, .ref (a_rows_sp 9), .int (rows_springs 9), .int (rows_lost 9)])), (a_rows_sp 9, .inl (cI, 49, .inl (rows_sp 9))), (a_rain, .inr (4, [.ref a_house, .ref a_rain_spoons, .int u10.1, .int u10.2.1])), (a_rain_spoons, .inl (cI, 49, .inl u10.2.2))] H := ⟨hP, hD⟩
      obtain ⟨hP, hD⟩ := hPD
      have he := Option.some.inj hf
      subst he
      exact hret _ _ _ _ dX1_restore_45 hP hD hS
    · rw [hj] at hf
      refine va_aldq hx hb hE.1 hP 1 2 rfl rfl (ix_in hc1) dX1_restore_31 ?_
      refine W.eq (g2 := F0 m 32 ls [.ref (a_rows 9), .ref a_rain]) (by rw [hj]; rfl) ?_
      obtain ⟨u11, hu11, hf⟩ := bd_some hf
      refine cl_vN (As := [.ref (a_rows 9)]) (rest := []) ⟨hx, hb, hml, hown, hts⟩ (c_X4_become l D cI cZ cR a_rain (a_rows 9) (a_rows_sp 9) a_rain_spoons a_house a_house (rows_springs 9) (rows_lost 9) rain_springs rain_lost (rows_sp 9) rain_spoons  u11 hu11) (cw_X1_restore_X4_become_24 hE hts) hE hP hD hS hA [20, 22, 21, 23] rfl rfl [(a_rows 9), a_rain, (a_rows_sp 9), a_rain_spoons] rfl rfl 22 4 rfl rfl rfl hl.1 rfl (Nat.le_of_ble_eq_true rfl) dX1_restore_32 ⟨Nat.zero_le _, Nat.zero_le _⟩ (fun H locs hP hD hS => ?_)
      have hPD : PD D A [(a_hist, .inr (1, [.ref a_hist_rows, .int hist_known, .int s1_19])), (a_hist_rows, .inl (cR, 10, .inr (.inr (.inr (.inr (fun j => some (a_rows j))))))), (a_rows 0, .inr (4, [.ref a_house, .ref (a_rows_sp 0), .int (rows_springs 0), .int (rows_lost 0)])), (a_rows_sp 0, .inl (cI, 49, .inl (rows_sp 0))), (a_rows 1, .inr (4, [.ref a_house, .ref (a_rows_sp 1), .int (rows_springs 1), .int (rows_lost 1)])), (a_rows_sp 1, .inl (cI, 49, .inl (rows_sp 1))), (a_rows 2, .inr (4, [.ref a_house, .ref (a_rows_sp 2), .int (rows_springs 2), .int (rows_lost 2)])), (a_rows_sp 2, .inl (cI, 49, .inl (rows_sp 2))), (a_rows 3, .inr (4, [.ref a_house, .ref (a_rows_sp 3), .int (rows_springs 3), .int (rows_lost 3)])), (a_rows_sp 3, .inl (cI, 49, .inl (rows_sp 3))), (a_rows 4, .inr (4, [.ref a_house, .ref (a_rows_sp 4), .int (rows_springs 4), .int (rows_lost 4)])), (a_rows_sp 4, .inl (cI, 49, .inl (rows_sp 4))), (a_rows 5, .inr (4, [.ref a_house, .ref (a_rows_sp 5), .int (rows_springs 5), .int (rows_lost 5)])), (a_rows_sp 5, .inl (cI, 49, .inl (rows_sp 5))), (a_rows 6, .inr (4, [.ref a_house, .ref (a_rows_sp 6), .int (rows_springs 6), .int (rows_lost 6)])), (a_rows_sp 6, .inl (cI, 49, .inl (rows_sp 6))), (a_rows 7, .inr (4, [.ref a_house, .ref (a_rows_sp 7), .int (rows_springs 7), .int (rows_lost 7)])), (a_rows_sp 7, .inl (cI, 49, .inl (rows_sp 7))), (a_rows 8, .inr (4, [.ref a_house, .ref (a_rows_sp 8), .int (rows_springs 8), .int (rows_lost 8)])), (a_rows_sp 8, .inl (cI, 49, .inl (rows_sp 8))), (a_rows 9, .inr (4, [.ref a_house, .ref (a_rows_sp 9), .int (rows_springs 9), .int (rows_lost 9)])), (a_rows_sp 9, .inl (cI, 49, .inl (rows_sp 9))), (a_rain, .inr (4, [.ref a_house, .ref a_rain_spoons, .int u11.1, .int u11.2.1])), (a_rain_spoons, .inl (cI, 49, .inl u11.2.2))] H := ⟨hP, hD⟩
      obtain ⟨hP, hD⟩ := hPD
      refine lv_aload_n hx hb dX1_restore_35 rfl (lv_at hl 0 rfl) ?_
      refine lv_dup hx hb dX1_restore_36 rfl ?_
      refine va_get (D := D) (ci := 1) (v := .int hist_known) (C := RX1) (T := TX1) (N := 3) hx hb hts hiX1_restore_1 hown hE.1 hP 0 rfl rfl 1 (by decide) fL28 (fun _ h9 => h9) rfl dX1_restore_37 ?_
      refine lv_iconst (v := 1) hx hb dX1_restore_40 (by decide) ?_
      refine lv_isub hx hb dX1_restore_41 ?_
      refine va_put (D := D) (ci := 1) (v := .int (hist_known - 1)) (ty := .int) (C := RX1) (T := TX1) (N := 3) hx hb hts hiX1_restore_1 tyX1 tyX1_ok nmX1 hown hE.1 hP hD hS 0 rfl rfl 1 (by decide) fL28 (fun _ h9 => h9) rfl (tyX1_ok 1 (by decide)) rfl rfl (Nat.le_of_ble_eq_true rfl) dX1_restore_42 (fun H locs hP hD hS => ?_)
      have hPD : PD D A [(a_hist, .inr (1, [.ref a_hist_rows, .int (hist_known - 1), .int s1_19])), (a_hist_rows, .inl (cR, 10, .inr (.inr (.inr (.inr (fun j => some (a_rows j))))))), (a_rows 0, .inr (4, [.ref a_house, .ref (a_rows_sp 0), .int (rows_springs 0), .int (rows_lost 0)])), (a_rows_sp 0, .inl (cI, 49, .inl (rows_sp 0))), (a_rows 1, .inr (4, [.ref a_house, .ref (a_rows_sp 1), .int (rows_springs 1), .int (rows_lost 1)])), (a_rows_sp 1, .inl (cI, 49, .inl (rows_sp 1))), (a_rows 2, .inr (4, [.ref a_house, .ref (a_rows_sp 2), .int (rows_springs 2), .int (rows_lost 2)])), (a_rows_sp 2, .inl (cI, 49, .inl (rows_sp 2))), (a_rows 3, .inr (4, [.ref a_house, .ref (a_rows_sp 3), .int (rows_springs 3), .int (rows_lost 3)])), (a_rows_sp 3, .inl (cI, 49, .inl (rows_sp 3))), (a_rows 4, .inr (4, [.ref a_house, .ref (a_rows_sp 4), .int (rows_springs 4), .int (rows_lost 4)])), (a_rows_sp 4, .inl (cI, 49, .inl (rows_sp 4))), (a_rows 5, .inr (4, [.ref a_house, .ref (a_rows_sp 5), .int (rows_springs 5), .int (rows_lost 5)])), (a_rows_sp 5, .inl (cI, 49, .inl (rows_sp 5))), (a_rows 6, .inr (4, [.ref a_house, .ref (a_rows_sp 6), .int (rows_springs 6), .int (rows_lost 6)])), (a_rows_sp 6, .inl (cI, 49, .inl (rows_sp 6))), (a_rows 7, .inr (4, [.ref a_house, .ref (a_rows_sp 7), .int (rows_springs 7), .int (rows_lost 7)])), (a_rows_sp 7, .inl (cI, 49, .inl (rows_sp 7))), (a_rows 8, .inr (4, [.ref a_house, .ref (a_rows_sp 8), .int (rows_springs 8), .int (rows_lost 8)])), (a_rows_sp 8, .inl (cI, 49, .inl (rows_sp 8))), (a_rows 9, .inr (4, [.ref a_house, .ref (a_rows_sp 9), .int (rows_springs 9), .int (rows_lost 9)])), (a_rows_sp 9, .inl (cI, 49, .inl (rows_sp 9))), (a_rain, .inr (4, [.ref a_house, .ref a_rain_spoons, .int u11.1, .int u11.2.1])), (a_rain_spoons, .inl (cI, 49, .inl u11.2.2))] H := ⟨hP, hD⟩
      obtain ⟨hP, hD⟩ := hPD
      have he := Option.some.inj hf
      subst he
      exact hret _ _ _ _ dX1_restore_45 hP hD hS
  refine lv_aload_n hx hb dX1_restore_0 rfl (lv_at hl 0 rfl) ?_
  refine lv_aload_n hx hb dX1_restore_1 rfl (lv_at hl 0 rfl) ?_
  refine va_get (D := D) (ci := 1) (v := .int hist_next) (C := RX1) (T := TX1) (N := 3) hx hb hts hiX1_restore_1 hown hE.1 hP 0 rfl rfl 2 (by decide) fL20 (fun _ h9 => h9) rfl dX1_restore_2 ?_
  refine lv_if_le (tgt := 17) hx hb dX1_restore_5 (by decide) (fun hc2 => ?_) (fun hc2 => ?_)
  · have hf := if_t hf hc2
    refine lv_bipush (v := 9) hx hb dX1_restore_17 (by decide) ?_
    exact J19 9 hf _ _ _ ⟨hP, hD⟩ hS hl
  · have hf := if_f hf hc2
    refine lv_aload_n hx hb dX1_restore_8 rfl (lv_at hl 0 rfl) ?_
    refine va_get (D := D) (ci := 1) (v := .int hist_next) (C := RX1) (T := TX1) (N := 3) hx hb hts hiX1_restore_1 hown hE.1 hP 0 rfl rfl 2 (by decide) fL20 (fun _ h9 => h9) rfl dX1_restore_9 ?_
    refine lv_iconst (v := 1) hx hb dX1_restore_12 (by decide) ?_
    refine lv_isub hx hb dX1_restore_13 ?_
    refine lv_goto (tgt := 19) hx hb dX1_restore_14 (by decide) ?_
    exact J19 (hist_next - 1) hf _ _ _ ⟨hP, hD⟩ hS hl
abbrev rmX2_empty : Room := { frames := 0, cells := 0, slots := 0, locals := 0 }
theorem hiX2_empty_2 : ∀ w ∈ wsX20, w ∈ wsX2_empty := fun w h => (goodIn_r (big := wsX2_empty) wsX20 [4, 5, 6, 7, 8, 9, 10, 11] rfl (by decide +kernel) w h).1
set_option maxRecDepth 100000 in
set_option maxHeartbeats 4000000 in
theorem c_X2_empty (l : Launch) (D : va_G) (cI cZ cR : ClassId) (a_draft : Nat) (a_draft_years : Nat) (a_draft_spoons : Nat) (a_draft_shrinks : Nat) (a_draft_sorts : Nat) (a_draft_byAge : Nat) (draft_pans : Int32) (draft_least : Int32) (draft_shelf : Int32) (out : Int32 × Int32 × Int32) (hf : f_X2_empty  = some out) : Cv l yX2_empty wsX2_empty rmX2_empty D cI cZ cR [.ref a_draft] [(a_draft, .inr (2, [.int draft_pans, .int draft_least, .int draft_shelf, .ref a_draft_years, .ref a_draft_spoons, .ref a_draft_shrinks, .ref a_draft_sorts, .ref a_draft_byAge]))] [(a_draft, .inr (2, [.int out.1, .int out.2.1, .int out.2.2, .ref a_draft_years, .ref a_draft_spoons, .ref a_draft_shrinks, .ref a_draft_sorts, .ref a_draft_byAge]))] := by
  refine ent_v (cc := cX2_empty) (maxL := 1) (by decide) rfl (Nat.le_of_ble_eq_true rfl) ?_
  intro p e s m below meth c A Q hx hb hml hown hts hE hA hP hD hS hret ls hl
  have hown : s.vm.findClass RX2 = some m.cls := hown
  have hl : lv_has ls 1 [(0, .ref a_draft)] := hl
  have fL30 := hts (.fieldLink RX2 30 "RainShelves$House" "pans" "I") (List.mem_of_getElem? (i := 1) rfl)
  have fL34 := hts (.fieldLink RX2 34 "RainShelves$House" "least" "I") (List.mem_of_getElem? (i := 2) rfl)
  have fL37 := hts (.fieldLink RX2 37 "RainShelves$House" "shelf" "I") (List.mem_of_getElem? (i := 3) rfl)
  unfold f_X2_empty at hf
  refine lv_aload_n hx hb dX2_empty_0 rfl (lv_at hl 0 rfl) ?_
  refine lv_iconst (v := 0) hx hb dX2_empty_1 (by decide) ?_
  refine va_put (D := D) (ci := 2) (v := .int 0) (ty := .int) (C := RX2) (T := TX2) (N := 8) hx hb hts hiX2_empty_2 tyX2 tyX2_ok nmX2 hown hE.1 hP hD hS 0 rfl rfl 0 (by decide) fL30 (fun _ h9 => h9) rfl (tyX2_ok 0 (by decide)) rfl rfl (Nat.le_of_ble_eq_true rfl) dX2_empty_2 (fun H locs hP hD hS => ?_)
  have hPD : PD D A [(a_draft, .inr (2, [.int 0, .int draft_least, .int draft_shelf, .ref a_draft_years, .ref a_draft_spoons, .ref a_draft_shrinks, .ref a_draft_sorts, .ref a_draft_byAge]))] H := ⟨hP, hD⟩
  obtain ⟨hP, hD⟩ := hPD
  refine lv_aload_n hx hb dX2_empty_5 rfl (lv_at hl 0 rfl) ?_
  refine lv_iconst (v := 5) hx hb dX2_empty_6 (by decide) ?_
  refine va_put (D := D) (ci := 2) (v := .int 5) (ty := .int) (C := RX2) (T := TX2) (N := 8) hx hb hts hiX2_empty_2 tyX2 tyX2_ok nmX2 hown hE.1 hP hD hS 0 rfl rfl 1 (by decide) fL34 (fun _ h9 => h9) rfl (tyX2_ok 1 (by decide)) rfl rfl (Nat.le_of_ble_eq_true rfl) dX2_empty_7 (fun H locs hP hD hS => ?_)
  have hPD : PD D A [(a_draft, .inr (2, [.int 0, .int 5, .int draft_shelf, .ref a_draft_years, .ref a_draft_spoons, .ref a_draft_shrinks, .ref a_draft_sorts, .ref a_draft_byAge]))] H := ⟨hP, hD⟩
  obtain ⟨hP, hD⟩ := hPD
  refine lv_aload_n hx hb dX2_empty_10 rfl (lv_at hl 0 rfl) ?_
  refine lv_bipush (v := 60) hx hb dX2_empty_11 (by decide) ?_
  refine va_put (D := D) (ci := 2) (v := .int 60) (ty := .int) (C := RX2) (T := TX2) (N := 8) hx hb hts hiX2_empty_2 tyX2 tyX2_ok nmX2 hown hE.1 hP hD hS 0 rfl rfl 2 (by decide) fL37 (fun _ h9 => h9) rfl (tyX2_ok 2 (by decide)) rfl rfl (Nat.le_of_ble_eq_true rfl) dX2_empty_13 (fun H locs hP hD hS => ?_)
  have hPD : PD D A [(a_draft, .inr (2, [.int 0, .int 5, .int 60, .ref a_draft_years, .ref a_draft_spoons, .ref a_draft_shrinks, .ref a_draft_sorts, .ref a_draft_byAge]))] H := ⟨hP, hD⟩
  obtain ⟨hP, hD⟩ := hPD
  have he := Option.some.inj hf
  subst he
  exact hret _ _ _ _ dX2_empty_16 hP hD hS
abbrev rmX2_has : Room := { frames := 0, cells := 0, slots := 0, locals := 0 }
theorem hiX2_has_2 : ∀ w ∈ wsX20, w ∈ wsX2_has := fun w h => (goodIn_r (big := wsX2_has) wsX20 [2, 3, 4, 5, 6, 7, 8, 9] rfl (by decide +kernel) w h).1
set_option maxRecDepth 100000 in
set_option maxHeartbeats 4000000 in
theorem c_X2_has (l : Launch) (D : va_G) (cI cZ cR : ClassId) (a_house : Nat) (a_house_years : Nat) (a_house_spoons : Nat) (a_house_shrinks : Nat) (a_house_sorts : Nat) (a_house_byAge : Nat) (house_pans : Int32) (house_least : Int32) (house_shelf : Int32) (v1 : Int32) (out : Int32) (hf : f_X2_has house_pans v1 = some out) : Ci l yX2_has wsX2_has rmX2_has D cI cZ cR [.ref a_house, .int v1] [(a_house, .inr (2, [.int house_pans, .int house_least, .int house_shelf, .ref a_house_years, .ref a_house_spoons, .ref a_house_shrinks, .ref a_house_sorts, .ref a_house_byAge]))] out [(a_house, .inr (2, [.int house_pans, .int house_least, .int house_shelf, .ref a_house_years, .ref a_house_spoons, .ref a_house_shrinks, .ref a_house_sorts, .ref a_house_byAge]))] := by
  refine ent_i (cc := cX2_has) (maxL := 2) .boolean (by decide) rfl (Nat.le_of_ble_eq_true rfl) ?_
  intro p e s m below meth c A Q hx hb hml hown hts hE hA hP hD hS hret ls hl
  have hown : s.vm.findClass RX2 = some m.cls := hown
  have hl : lv_has ls 2 [(0, .ref a_house), (1, .int v1)] := hl
  have fL30 := hts (.fieldLink RX2 30 "RainShelves$House" "pans" "I") (List.mem_of_getElem? (i := 1) rfl)
  unfold f_X2_has at hf
  refine lv_iload_n hx hb dX2_has_0 rfl (lv_at hl 1 rfl) ?_
  refine lv_if_lt (tgt := 16) hx hb dX2_has_1 (by decide) (fun hc1 => ?_) (fun hc1 => ?_)
  · have hf := if_t hf hc1
    refine lv_iconst (v := 0) hx hb dX2_has_16 (by decide) ?_
    have he := Option.some.inj hf
    subst he
    exact hret _ _ _ _ dX2_has_17 bn0 hP hD hS
  · have hf := if_f hf hc1
    refine lv_iload_n hx hb dX2_has_4 rfl (lv_at hl 1 rfl) ?_
    refine lv_aload_n hx hb dX2_has_5 rfl (lv_at hl 0 rfl) ?_
    refine va_get (D := D) (ci := 2) (v := .int house_pans) (C := RX2) (T := TX2) (N := 8) hx hb hts hiX2_has_2 hown hE.1 hP 0 rfl rfl 0 (by decide) fL30 (fun _ h9 => h9) rfl dX2_has_6 ?_
    refine lv_icmp_ge (tgt := 16) hx hb dX2_has_9 (by decide) (fun hc2 => ?_) (fun hc2 => ?_)
    · have hf := if_t hf hc2
      refine lv_iconst (v := 0) hx hb dX2_has_16 (by decide) ?_
      have he := Option.some.inj hf
      subst he
      exact hret _ _ _ _ dX2_has_17 bn0 hP hD hS
    · have hf := if_f hf hc2
      refine lv_iconst (v := 1) hx hb dX2_has_12 (by decide) ?_
      refine lv_goto (tgt := 17) hx hb dX2_has_13 (by decide) ?_
      have he := Option.some.inj hf
      subst he
      exact hret _ _ _ _ dX2_has_17 bn1 hP hD hS
abbrev rmX2_append : Room := { frames := 0, cells := 0, slots := 0, locals := 0 }
theorem hiX2_append_2 : ∀ w ∈ wsX20, w ∈ wsX2_append := fun w h => (goodIn_r (big := wsX2_append) wsX20 [7, 8, 9, 10, 11, 12, 13, 14] rfl (by decide +kernel) w h).1
set_option maxRecDepth 100000 in
set_option maxHeartbeats 4000000 in
theorem c_X2_append (l : Launch) (D : va_G) (cI cZ cR : ClassId) (a_draft : Nat) (a_draft_years : Nat) (a_draft_spoons : Nat) (a_draft_shrinks : Nat) (a_draft_sorts : Nat) (a_draft_byAge : Nat) (draft_pans : Int32) (draft_least : Int32) (draft_shelf : Int32) (draft_years : Nat → Int32) (draft_spoons : Nat → Int32) (draft_shrinks : Nat → Int32) (draft_sorts : Nat → Int32) (draft_byAge : Nat → Int32) (v1 : Int32) (v2 : Int32) (v3 : Int32) (v4 : Int32) (out : Int32 × Int32 × (Nat → Int32) × (Nat → Int32) × (Nat → Int32) × (Nat → Int32) × (Nat → Int32)) (hf : f_X2_append draft_pans draft_years draft_spoons draft_shrinks draft_sorts draft_byAge v1 v2 v3 v4 = some out) : Ci l yX2_append wsX2_append rmX2_append D cI cZ cR [.ref a_draft, .int v1, .int v2, .int v3, .int v4] [(a_draft, .inr (2, [.int draft_pans, .int draft_least, .int draft_shelf, .ref a_draft_years, .ref a_draft_spoons, .ref a_draft_shrinks, .ref a_draft_sorts, .ref a_draft_byAge])), (a_draft_years, .inl (cI, 7, .inl draft_years)), (a_draft_spoons, .inl (cI, 7, .inl draft_spoons)), (a_draft_shrinks, .inl (cI, 7, .inl draft_shrinks)), (a_draft_sorts, .inl (cI, 7, .inl draft_sorts)), (a_draft_byAge, .inl (cI, 7, .inl draft_byAge))] out.1 [(a_draft, .inr (2, [.int out.2.1, .int draft_least, .int draft_shelf, .ref a_draft_years, .ref a_draft_spoons, .ref a_draft_shrinks, .ref a_draft_sorts, .ref a_draft_byAge])), (a_draft_years, .inl (cI, 7, .inl out.2.2.1)), (a_draft_spoons, .inl (cI, 7, .inl out.2.2.2.1)), (a_draft_shrinks, .inl (cI, 7, .inl out.2.2.2.2.1)), (a_draft_sorts, .inl (cI, 7, .inl out.2.2.2.2.2.1)), (a_draft_byAge, .inl (cI, 7, .inl out.2.2.2.2.2.2))] := by
  refine ent_i (cc := cX2_append) (maxL := 6) .boolean (by decide) rfl (Nat.le_of_ble_eq_true rfl) ?_
  intro p e s m below meth c A Q hx hb hml hown hts hE hA hP hD hS hret ls hl
  have hown : s.vm.findClass RX2 = some m.cls := hown
  have hl : lv_has ls 6 [(0, .ref a_draft), (1, .int v1), (2, .int v2), (3, .int v3), (4, .int v4)] := hl
  have fL9 := hts (.fieldLink RX2 9 "RainShelves$House" "years" "[I") (List.mem_of_getElem? (i := 2) rfl)
  have fL15 := hts (.fieldLink RX2 15 "RainShelves$House" "spoons" "[I") (List.mem_of_getElem? (i := 3) rfl)
  have fL18 := hts (.fieldLink RX2 18 "RainShelves$House" "shrinks" "[I") (List.mem_of_getElem? (i := 4) rfl)
  have fL21 := hts (.fieldLink RX2 21 "RainShelves$House" "sorts" "[I") (List.mem_of_getElem? (i := 5) rfl)
  have fL24 := hts (.fieldLink RX2 24 "RainShelves$House" "byAge" "[I") (List.mem_of_getElem? (i := 6) rfl)
  have fL30 := hts (.fieldLink RX2 30 "RainShelves$House" "pans" "I") (List.mem_of_getElem? (i := 1) rfl)
  unfold f_X2_append at hf
  have J103 : ∀ (v5_103 : Int32) (draft_years_103 : Nat → Int32) (draft_spoons_103 : Nat → Int32) (draft_shrinks_103 : Nat → Int32) (draft_sorts_103 : Nat → Int32) (draft_byAge_103 : Nat → Int32), f_X2_append_J103 draft_pans v5_103 draft_years_103 draft_spoons_103 draft_shrinks_103 draft_sorts_103 draft_byAge_103 = some out → ∀ (H : Heap) (locs : List Loc) (ls : Array Slot), PD D A [(a_draft, .inr (2, [.int draft_pans, .int draft_least, .int draft_shelf, .ref a_draft_years, .ref a_draft_spoons, .ref a_draft_shrinks, .ref a_draft_sorts, .ref a_draft_byAge])), (a_draft_years, .inl (cI, 7, .inl draft_years_103)), (a_draft_spoons, .inl (cI, 7, .inl draft_spoons_103)), (a_draft_shrinks, .inl (cI, 7, .inl draft_shrinks_103)), (a_draft_sorts, .inl (cI, 7, .inl draft_sorts_103)), (a_draft_byAge, .inl (cI, 7, .inl draft_byAge_103))] H → va_S A s.heap H locs → lv_has ls 6 [(0, .ref a_draft), (5, .int v5_103)] → W p l e rmX2_append s m ([.ref a_draft, .int v1, .int v2, .int v3, .int v4] : List Value).toArray below meth c H locs 0 0 Q (F0 m 103 ls []) := by
    intro v5_103 draft_years_103 draft_spoons_103 draft_shrinks_103 draft_sorts_103 draft_byAge_103 hf H locs ls hPD hS hl
    obtain ⟨hP, hD⟩ := hPD
    unfold f_X2_append_J103 at hf
    refine lv_aload_n hx hb dX2_append_103 rfl (lv_at hl 0 rfl) ?_
    refine va_get (D := D) (ci := 2) (v := .ref a_draft_byAge) (C := RX2) (T := TX2) (N := 8) hx hb hts hiX2_append_2 hown hE.1 hP 0 rfl rfl 7 (by decide) fL24 (fun _ h9 => h9) rfl dX2_append_104 ?_
    refine lv_iload hx hb dX2_append_107 (lv_at hl 1 rfl) ?_
    refine lv_aload_n hx hb dX2_append_109 rfl (lv_at hl 0 rfl) ?_
    refine va_get (D := D) (ci := 2) (v := .int draft_pans) (C := RX2) (T := TX2) (N := 8) hx hb hts hiX2_append_2 hown hE.1 hP 0 rfl rfl 0 (by decide) fL30 (fun _ h9 => h9) rfl dX2_append_110 ?_
    obtain ⟨hc1, hf⟩ := ck_some hf
    refine va_iast hx hb hE.1 hP hD hS 5 0 rfl rfl (ix_in hc1) dX2_append_113 (fun H locs hP hD hS => ?_)
    have hPD : PD D A [(a_draft, .inr (2, [.int draft_pans, .int draft_least, .int draft_shelf, .ref a_draft_years, .ref a_draft_spoons, .ref a_draft_shrinks, .ref a_draft_sorts, .ref a_draft_byAge])), (a_draft_years, .inl (cI, 7, .inl draft_years_103)), (a_draft_spoons, .inl (cI, 7, .inl draft_spoons_103)), (a_draft_shrinks, .inl (cI, 7, .inl draft_shrinks_103)), (a_draft_sorts, .inl (cI, 7, .inl draft_sorts_103)), (a_draft_byAge, .inl (cI, 7, .inl (upd draft_byAge_103 v5_103.toNatClampNeg draft_pans)))] H := ⟨hP, hD⟩
    obtain ⟨hP, hD⟩ := hPD
    refine lv_aload_n hx hb dX2_append_114 rfl (lv_at hl 0 rfl) ?_
    refine lv_dup hx hb dX2_append_115 rfl ?_
    refine va_get (D := D) (ci := 2) (v := .int draft_pans) (C := RX2) (T := TX2) (N := 8) hx hb hts hiX2_append_2 hown hE.1 hP 0 rfl rfl 0 (by decide) fL30 (fun _ h9 => h9) rfl dX2_append_116 ?_
    refine lv_iconst (v := 1) hx hb dX2_append_119 (by decide) ?_
    refine lv_iadd hx hb dX2_append_120 ?_
    refine va_put (D := D) (ci := 2) (v := .int (draft_pans + 1)) (ty := .int) (C := RX2) (T := TX2) (N := 8) hx hb hts hiX2_append_2 tyX2 tyX2_ok nmX2 hown hE.1 hP hD hS 0 rfl rfl 0 (by decide) fL30 (fun _ h9 => h9) rfl (tyX2_ok 0 (by decide)) rfl rfl (Nat.le_of_ble_eq_true rfl) dX2_append_121 (fun H locs hP hD hS => ?_)
    have hPD : PD D A [(a_draft, .inr (2, [.int (draft_pans + 1), .int draft_least, .int draft_shelf, .ref a_draft_years, .ref a_draft_spoons, .ref a_draft_shrinks, .ref a_draft_sorts, .ref a_draft_byAge])), (a_draft_years, .inl (cI, 7, .inl draft_years_103)), (a_draft_spoons, .inl (cI, 7, .inl draft_spoons_103)), (a_draft_shrinks, .inl (cI, 7, .inl draft_shrinks_103)), (a_draft_sorts, .inl (cI, 7, .inl draft_sorts_103)), (a_draft_byAge, .inl (cI, 7, .inl (upd draft_byAge_103 v5_103.toNatClampNeg draft_pans)))] H := ⟨hP, hD⟩
    obtain ⟨hP, hD⟩ := hPD
    refine lv_iconst (v := 1) hx hb dX2_append_124 (by decide) ?_
    have he := Option.some.inj hf
    subst he
    exact hret _ _ _ _ dX2_append_125 bn1 hP hD hS
  have L58 : ∀ (draft_years_58 : Nat → Int32) (draft_spoons_58 : Nat → Int32) (draft_shrinks_58 : Nat → Int32) (draft_sorts_58 : Nat → Int32) (n58 : Nat) (v5_58 : Int32) (draft_byAge_58 : Nat → Int32), f_X2_append_L58 draft_pans v1 draft_years_58 draft_spoons_58 draft_shrinks_58 draft_sorts_58 n58 v5_58 draft_byAge_58 = some out → ∀ (H : Heap) (locs : List Loc) (ls : Array Slot), PD D A [(a_draft, .inr (2, [.int draft_pans, .int draft_least, .int draft_shelf, .ref a_draft_years, .ref a_draft_spoons, .ref a_draft_shrinks, .ref a_draft_sorts, .ref a_draft_byAge])), (a_draft_years, .inl (cI, 7, .inl draft_years_58)), (a_draft_spoons, .inl (cI, 7, .inl draft_spoons_58)), (a_draft_shrinks, .inl (cI, 7, .inl draft_shrinks_58)), (a_draft_sorts, .inl (cI, 7, .inl draft_sorts_58)), (a_draft_byAge, .inl (cI, 7, .inl draft_byAge_58))] H → va_S A s.heap H locs → lv_has ls 6 [(0, .ref a_draft), (1, .int v1), (5, .int v5_58)] → W p l e rmX2_append s m ([.ref a_draft, .int v1, .int v2, .int v3, .int v4] : List Value).toArray below meth c H locs 0 0 Q (F0 m 58 ls []) := by
    intro draft_years_58 draft_spoons_58 draft_shrinks_58 draft_sorts_58 n58
    induction n58 with
    | zero => intro v5_58 draft_byAge_58 hf; cases hf
    | succ n58 ih58 =>
      intro v5_58 draft_byAge_58 hf H locs ls hPD hS hl
      obtain ⟨hP, hD⟩ := hPD
      have hf : f_X2_append_B58 draft_pans v1 draft_years_58 draft_spoons_58 draft_shrinks_58 draft_sorts_58 (f_X2_append_L58 draft_pans v1 draft_years_58 draft_spoons_58 draft_shrinks_58 draft_sorts_58 n58) v5_58 draft_byAge_58 = some out := hf
      unfold f_X2_append_B58 at hf
      refine lv_iload hx hb dX2_append_58 (lv_at hl 2 rfl) ?_
      refine lv_if_le (tgt := 103) hx hb dX2_append_60 (by decide) (fun hc2 => ?_) (fun hc2 => ?_)
      · have hf := if_t hf hc2
        exact J103 v5_58 draft_years_58 draft_spoons_58 draft_shrinks_58 draft_sorts_58 draft_byAge_58 hf _ _ _ ⟨hP, hD⟩ hS (lv_sub hl [0, 2] rfl)
      · have hf := if_f hf hc2
        refine lv_aload_n hx hb dX2_append_63 rfl (lv_at hl 0 rfl) ?_
        refine va_get (D := D) (ci := 2) (v := .ref a_draft_years) (C := RX2) (T := TX2) (N := 8) hx hb hts hiX2_append_2 hown hE.1 hP 0 rfl rfl 3 (by decide) fL9 (fun _ h9 => h9) rfl dX2_append_64 ?_
        refine lv_aload_n hx hb dX2_append_67 rfl (lv_at hl 0 rfl) ?_
        refine va_get (D := D) (ci := 2) (v := .ref a_draft_byAge) (C := RX2) (T := TX2) (N := 8) hx hb hts hiX2_append_2 hown hE.1 hP 0 rfl rfl 7 (by decide) fL24 (fun _ h9 => h9) rfl dX2_append_68 ?_
        refine lv_iload hx hb dX2_append_71 (lv_at hl 2 rfl) ?_
        refine lv_iconst (v := 1) hx hb dX2_append_73 (by decide) ?_
        refine lv_isub hx hb dX2_append_74 ?_
        obtain ⟨hc3, hf⟩ := ck_some hf
        refine va_iald hx hb hE.1 hP 5 0 rfl rfl (ix_in hc3) dX2_append_75 ?_
        obtain ⟨hc4, hf⟩ := ck_some hf
        refine va_iald hx hb hE.1 hP 1 0 rfl rfl (ix_in hc4) dX2_append_76 ?_
        refine lv_iload_n hx hb dX2_append_77 rfl (lv_at hl 1 rfl) ?_
        refine lv_icmp_le (tgt := 103) hx hb dX2_append_78 (by decide) (fun hc5 => ?_) (fun hc5 => ?_)
        · have hf := if_t hf hc5
          exact J103 v5_58 draft_years_58 draft_spoons_58 draft_shrinks_58 draft_sorts_58 draft_byAge_58 hf _ _ _ ⟨hP, hD⟩ hS (lv_sub hl [0, 2] rfl)
        · have hf := if_f hf hc5
          refine lv_aload_n hx hb dX2_append_81 rfl (lv_at hl 0 rfl) ?_
          refine va_get (D := D) (ci := 2) (v := .ref a_draft_byAge) (C := RX2) (T := TX2) (N := 8) hx hb hts hiX2_append_2 hown hE.1 hP 0 rfl rfl 7 (by decide) fL24 (fun _ h9 => h9) rfl dX2_append_82 ?_
          refine lv_iload hx hb dX2_append_85 (lv_at hl 2 rfl) ?_
          refine lv_aload_n hx hb dX2_append_87 rfl (lv_at hl 0 rfl) ?_
          refine va_get (D := D) (ci := 2) (v := .ref a_draft_byAge) (C := RX2) (T := TX2) (N := 8) hx hb hts hiX2_append_2 hown hE.1 hP 0 rfl rfl 7 (by decide) fL24 (fun _ h9 => h9) rfl dX2_append_88 ?_
          refine lv_iload hx hb dX2_append_91 (lv_at hl 2 rfl) ?_
          refine lv_iconst (v := 1) hx hb dX2_append_93 (by decide) ?_
          refine lv_isub hx hb dX2_append_94 ?_
          obtain ⟨hc6, hf⟩ := ck_some hf
          refine va_iald hx hb hE.1 hP 5 0 rfl rfl (ix_in hc6) dX2_append_95 ?_
          obtain ⟨hc7, hf⟩ := ck_some hf
          refine va_iast hx hb hE.1 hP hD hS 5 0 rfl rfl (ix_in hc7) dX2_append_96 (fun H locs hP hD hS => ?_)
          have hPD : PD D A [(a_draft, .inr (2, [.int draft_pans, .int draft_least, .int draft_shelf, .ref a_draft_years, .ref a_draft_spoons, .ref a_draft_shrinks, .ref a_draft_sorts, .ref a_draft_byAge])), (a_draft_years, .inl (cI, 7, .inl draft_years_58)), (a_draft_spoons, .inl (cI, 7, .inl draft_spoons_58)), (a_draft_shrinks, .inl (cI, 7, .inl draft_shrinks_58)), (a_draft_sorts, .inl (cI, 7, .inl draft_sorts_58)), (a_draft_byAge, .inl (cI, 7, .inl (upd draft_byAge_58 v5_58.toNatClampNeg (draft_byAge_58 (v5_58 - 1).toNatClampNeg))))] H := ⟨hP, hD⟩
          obtain ⟨hP, hD⟩ := hPD
          refine lv_iinc (v := (v5_58 + (-1))) (lv' := [(5, .int (v5_58 + (-1))), (0, .ref a_draft), (1, .int v1)]) hx hb dX2_append_97 hl (k := 2) rfl (ii_m1 _) (by decide) rfl (fun ls hl => ?_)
          refine lv_goto (tgt := 58) hx hb dX2_append_100 (by decide) ?_
          exact ih58 (v5_58 + (-1)) (upd draft_byAge_58 v5_58.toNatClampNeg (draft_byAge_58 (v5_58 - 1).toNatClampNeg)) hf _ _ _ ⟨hP, hD⟩ hS (lv_sub hl [1, 2, 0] rfl)
  refine lv_aload_n hx hb dX2_append_0 rfl (lv_at hl 0 rfl) ?_
  refine va_get (D := D) (ci := 2) (v := .int draft_pans) (C := RX2) (T := TX2) (N := 8) hx hb hts hiX2_append_2 hown hE.1 hP 0 rfl rfl 0 (by decide) fL30 (fun _ h9 => h9) rfl dX2_append_1 ?_
  refine lv_bipush (v := 7) hx hb dX2_append_4 (by decide) ?_
  refine lv_icmp_lt (tgt := 11) hx hb dX2_append_6 (by decide) (fun hc8 => ?_) (fun hc8 => ?_)
  · have hf := if_t hf hc8
    refine lv_aload_n hx hb dX2_append_11 rfl (lv_at hl 0 rfl) ?_
    refine va_get (D := D) (ci := 2) (v := .ref a_draft_years) (C := RX2) (T := TX2) (N := 8) hx hb hts hiX2_append_2 hown hE.1 hP 0 rfl rfl 3 (by decide) fL9 (fun _ h9 => h9) rfl dX2_append_12 ?_
    refine lv_aload_n hx hb dX2_append_15 rfl (lv_at hl 0 rfl) ?_
    refine va_get (D := D) (ci := 2) (v := .int draft_pans) (C := RX2) (T := TX2) (N := 8) hx hb hts hiX2_append_2 hown hE.1 hP 0 rfl rfl 0 (by decide) fL30 (fun _ h9 => h9) rfl dX2_append_16 ?_
    refine lv_iload_n hx hb dX2_append_19 rfl (lv_at hl 1 rfl) ?_
    obtain ⟨hc9, hf⟩ := ck_some hf
    refine va_iast hx hb hE.1 hP hD hS 1 0 rfl rfl (ix_in hc9) dX2_append_20 (fun H locs hP hD hS => ?_)
    have hPD : PD D A [(a_draft, .inr (2, [.int draft_pans, .int draft_least, .int draft_shelf, .ref a_draft_years, .ref a_draft_spoons, .ref a_draft_shrinks, .ref a_draft_sorts, .ref a_draft_byAge])), (a_draft_years, .inl (cI, 7, .inl (upd draft_years draft_pans.toNatClampNeg v1))), (a_draft_spoons, .inl (cI, 7, .inl draft_spoons)), (a_draft_shrinks, .inl (cI, 7, .inl draft_shrinks)), (a_draft_sorts, .inl (cI, 7, .inl draft_sorts)), (a_draft_byAge, .inl (cI, 7, .inl draft_byAge))] H := ⟨hP, hD⟩
    obtain ⟨hP, hD⟩ := hPD
    refine lv_aload_n hx hb dX2_append_21 rfl (lv_at hl 0 rfl) ?_
    refine va_get (D := D) (ci := 2) (v := .ref a_draft_spoons) (C := RX2) (T := TX2) (N := 8) hx hb hts hiX2_append_2 hown hE.1 hP 0 rfl rfl 4 (by decide) fL15 (fun _ h9 => h9) rfl dX2_append_22 ?_
    refine lv_aload_n hx hb dX2_append_25 rfl (lv_at hl 0 rfl) ?_
    refine va_get (D := D) (ci := 2) (v := .int draft_pans) (C := RX2) (T := TX2) (N := 8) hx hb hts hiX2_append_2 hown hE.1 hP 0 rfl rfl 0 (by decide) fL30 (fun _ h9 => h9) rfl dX2_append_26 ?_
    refine lv_iload_n hx hb dX2_append_29 rfl (lv_at hl 2 rfl) ?_
    obtain ⟨hc10, hf⟩ := ck_some hf
    refine va_iast hx hb hE.1 hP hD hS 2 0 rfl rfl (ix_in hc10) dX2_append_30 (fun H locs hP hD hS => ?_)
    have hPD : PD D A [(a_draft, .inr (2, [.int draft_pans, .int draft_least, .int draft_shelf, .ref a_draft_years, .ref a_draft_spoons, .ref a_draft_shrinks, .ref a_draft_sorts, .ref a_draft_byAge])), (a_draft_years, .inl (cI, 7, .inl (upd draft_years draft_pans.toNatClampNeg v1))), (a_draft_spoons, .inl (cI, 7, .inl (upd draft_spoons draft_pans.toNatClampNeg v2))), (a_draft_shrinks, .inl (cI, 7, .inl draft_shrinks)), (a_draft_sorts, .inl (cI, 7, .inl draft_sorts)), (a_draft_byAge, .inl (cI, 7, .inl draft_byAge))] H := ⟨hP, hD⟩
    obtain ⟨hP, hD⟩ := hPD
    refine lv_aload_n hx hb dX2_append_31 rfl (lv_at hl 0 rfl) ?_
    refine va_get (D := D) (ci := 2) (v := .ref a_draft_shrinks) (C := RX2) (T := TX2) (N := 8) hx hb hts hiX2_append_2 hown hE.1 hP 0 rfl rfl 5 (by decide) fL18 (fun _ h9 => h9) rfl dX2_append_32 ?_
    refine lv_aload_n hx hb dX2_append_35 rfl (lv_at hl 0 rfl) ?_
    refine va_get (D := D) (ci := 2) (v := .int draft_pans) (C := RX2) (T := TX2) (N := 8) hx hb hts hiX2_append_2 hown hE.1 hP 0 rfl rfl 0 (by decide) fL30 (fun _ h9 => h9) rfl dX2_append_36 ?_
    refine lv_iload_n hx hb dX2_append_39 rfl (lv_at hl 3 rfl) ?_
    obtain ⟨hc11, hf⟩ := ck_some hf
    refine va_iast hx hb hE.1 hP hD hS 3 0 rfl rfl (ix_in hc11) dX2_append_40 (fun H locs hP hD hS => ?_)
    have hPD : PD D A [(a_draft, .inr (2, [.int draft_pans, .int draft_least, .int draft_shelf, .ref a_draft_years, .ref a_draft_spoons, .ref a_draft_shrinks, .ref a_draft_sorts, .ref a_draft_byAge])), (a_draft_years, .inl (cI, 7, .inl (upd draft_years draft_pans.toNatClampNeg v1))), (a_draft_spoons, .inl (cI, 7, .inl (upd draft_spoons draft_pans.toNatClampNeg v2))), (a_draft_shrinks, .inl (cI, 7, .inl (upd draft_shrinks draft_pans.toNatClampNeg v3))), (a_draft_sorts, .inl (cI, 7, .inl draft_sorts)), (a_draft_byAge, .inl (cI, 7, .inl draft_byAge))] H := ⟨hP, hD⟩
    obtain ⟨hP, hD⟩ := hPD
    refine lv_aload_n hx hb dX2_append_41 rfl (lv_at hl 0 rfl) ?_
    refine va_get (D := D) (ci := 2) (v := .ref a_draft_sorts) (C := RX2) (T := TX2) (N := 8) hx hb hts hiX2_append_2 hown hE.1 hP 0 rfl rfl 6 (by decide) fL21 (fun _ h9 => h9) rfl dX2_append_42 ?_
    refine lv_aload_n hx hb dX2_append_45 rfl (lv_at hl 0 rfl) ?_
    refine va_get (D := D) (ci := 2) (v := .int draft_pans) (C := RX2) (T := TX2) (N := 8) hx hb hts hiX2_append_2 hown hE.1 hP 0 rfl rfl 0 (by decide) fL30 (fun _ h9 => h9) rfl dX2_append_46 ?_
    refine lv_iload hx hb dX2_append_49 (lv_at hl 4 rfl) ?_
    obtain ⟨hc12, hf⟩ := ck_some hf
    refine va_iast hx hb hE.1 hP hD hS 4 0 rfl rfl (ix_in hc12) dX2_append_51 (fun H locs hP hD hS => ?_)
    have hPD : PD D A [(a_draft, .inr (2, [.int draft_pans, .int draft_least, .int draft_shelf, .ref a_draft_years, .ref a_draft_spoons, .ref a_draft_shrinks, .ref a_draft_sorts, .ref a_draft_byAge])), (a_draft_years, .inl (cI, 7, .inl (upd draft_years draft_pans.toNatClampNeg v1))), (a_draft_spoons, .inl (cI, 7, .inl (upd draft_spoons draft_pans.toNatClampNeg v2))), (a_draft_shrinks, .inl (cI, 7, .inl (upd draft_shrinks draft_pans.toNatClampNeg v3))), (a_draft_sorts, .inl (cI, 7, .inl (upd draft_sorts draft_pans.toNatClampNeg v4))), (a_draft_byAge, .inl (cI, 7, .inl draft_byAge))] H := ⟨hP, hD⟩
    obtain ⟨hP, hD⟩ := hPD
    refine lv_aload_n hx hb dX2_append_52 rfl (lv_at hl 0 rfl) ?_
    refine va_get (D := D) (ci := 2) (v := .int draft_pans) (C := RX2) (T := TX2) (N := 8) hx hb hts hiX2_append_2 hown hE.1 hP 0 rfl rfl 0 (by decide) fL30 (fun _ h9 => h9) rfl dX2_append_53 ?_
    refine lv_istore (lv' := [(5, .int draft_pans), (0, .ref a_draft), (1, .int v1), (2, .int v2), (3, .int v3), (4, .int v4)]) hx hb dX2_append_56 hl (by decide) rfl (fun ls hl => ?_)
    exact L58 (upd draft_years draft_pans.toNatClampNeg v1) (upd draft_spoons draft_pans.toNatClampNeg v2) (upd draft_shrinks draft_pans.toNatClampNeg v3) (upd draft_sorts draft_pans.toNatClampNeg v4) FU draft_pans draft_byAge hf _ _ _ ⟨hP, hD⟩ hS (lv_sub hl [1, 2, 0] rfl)
  · have hf := if_f hf hc8
    refine lv_iconst (v := 0) hx hb dX2_append_9 (by decide) ?_
    have he := Option.some.inj hf
    subst he
    exact hret _ _ _ _ dX2_append_10 bn0 hP hD hS
abbrev rmX2_become : Room := { frames := 0, cells := 0, slots := 0, locals := 0 }
theorem hiX2_become_2 : ∀ w ∈ wsX20, w ∈ wsX2_become := fun w h => (goodIn_r (big := wsX2_become) wsX20 [9, 10, 11, 12, 13, 14, 15, 16] rfl (by decide +kernel) w h).1
set_option maxRecDepth 100000 in
set_option maxHeartbeats 4000000 in
theorem c_X2_become (l : Launch) (D : va_G) (cI cZ cR : ClassId) (a_house : Nat) (a_draft : Nat) (a_draft_years : Nat) (a_house_years : Nat) (a_draft_spoons : Nat) (a_house_spoons : Nat) (a_draft_shrinks : Nat) (a_house_shrinks : Nat) (a_draft_sorts : Nat) (a_house_sorts : Nat) (a_draft_byAge : Nat) (a_house_byAge : Nat) (draft_pans : Int32) (draft_least : Int32) (draft_shelf : Int32) (house_pans : Int32) (house_least : Int32) (house_shelf : Int32) (draft_years : Nat → Int32) (house_years : Nat → Int32) (draft_spoons : Nat → Int32) (house_spoons : Nat → Int32) (draft_shrinks : Nat → Int32) (house_shrinks : Nat → Int32) (draft_sorts : Nat → Int32) (house_sorts : Nat → Int32) (draft_byAge : Nat → Int32) (house_byAge : Nat → Int32) (out : Int32 × Int32 × Int32 × (Nat → Int32) × (Nat → Int32) × (Nat → Int32) × (Nat → Int32) × (Nat → Int32)) (hf : f_X2_become draft_pans draft_least draft_shelf draft_years house_years draft_spoons house_spoons draft_shrinks house_shrinks draft_sorts house_sorts draft_byAge house_byAge = some out) : Cv l yX2_become wsX2_become rmX2_become D cI cZ cR [.ref a_house, .ref a_draft] [(a_draft, .inr (2, [.int draft_pans, .int draft_least, .int draft_shelf, .ref a_draft_years, .ref a_draft_spoons, .ref a_draft_shrinks, .ref a_draft_sorts, .ref a_draft_byAge])), (a_house, .inr (2, [.int house_pans, .int house_least, .int house_shelf, .ref a_house_years, .ref a_house_spoons, .ref a_house_shrinks, .ref a_house_sorts, .ref a_house_byAge])), (a_draft_years, .inl (cI, 7, .inl draft_years)), (a_house_years, .inl (cI, 7, .inl house_years)), (a_draft_spoons, .inl (cI, 7, .inl draft_spoons)), (a_house_spoons, .inl (cI, 7, .inl house_spoons)), (a_draft_shrinks, .inl (cI, 7, .inl draft_shrinks)), (a_house_shrinks, .inl (cI, 7, .inl house_shrinks)), (a_draft_sorts, .inl (cI, 7, .inl draft_sorts)), (a_house_sorts, .inl (cI, 7, .inl house_sorts)), (a_draft_byAge, .inl (cI, 7, .inl draft_byAge)), (a_house_byAge, .inl (cI, 7, .inl house_byAge))] [(a_draft, .inr (2, [.int draft_pans, .int draft_least, .int draft_shelf, .ref a_draft_years, .ref a_draft_spoons, .ref a_draft_shrinks, .ref a_draft_sorts, .ref a_draft_byAge])), (a_house, .inr (2, [.int out.1, .int out.2.1, .int out.2.2.1, .ref a_house_years, .ref a_house_spoons, .ref a_house_shrinks, .ref a_house_sorts, .ref a_house_byAge])), (a_draft_years, .inl (cI, 7, .inl draft_years)), (a_house_years, .inl (cI, 7, .inl out.2.2.2.1)), (a_draft_spoons, .inl (cI, 7, .inl draft_spoons)), (a_house_spoons, .inl (cI, 7, .inl out.2.2.2.2.1)), (a_draft_shrinks, .inl (cI, 7, .inl draft_shrinks)), (a_house_shrinks, .inl (cI, 7, .inl out.2.2.2.2.2.1)), (a_draft_sorts, .inl (cI, 7, .inl draft_sorts)), (a_house_sorts, .inl (cI, 7, .inl out.2.2.2.2.2.2.1)), (a_draft_byAge, .inl (cI, 7, .inl draft_byAge)), (a_house_byAge, .inl (cI, 7, .inl out.2.2.2.2.2.2.2))] := by
  refine ent_v (cc := cX2_become) (maxL := 3) (by decide) rfl (Nat.le_of_ble_eq_true rfl) ?_
  intro p e s m below meth c A Q hx hb hml hown hts hE hA hP hD hS hret ls hl
  have hown : s.vm.findClass RX2 = some m.cls := hown
  have hl : lv_has ls 3 [(0, .ref a_house), (1, .ref a_draft)] := hl
  have fL9 := hts (.fieldLink RX2 9 "RainShelves$House" "years" "[I") (List.mem_of_getElem? (i := 4) rfl)
  have fL15 := hts (.fieldLink RX2 15 "RainShelves$House" "spoons" "[I") (List.mem_of_getElem? (i := 5) rfl)
  have fL18 := hts (.fieldLink RX2 18 "RainShelves$House" "shrinks" "[I") (List.mem_of_getElem? (i := 6) rfl)
  have fL21 := hts (.fieldLink RX2 21 "RainShelves$House" "sorts" "[I") (List.mem_of_getElem? (i := 7) rfl)
  have fL24 := hts (.fieldLink RX2 24 "RainShelves$House" "byAge" "[I") (List.mem_of_getElem? (i := 8) rfl)
  have fL30 := hts (.fieldLink RX2 30 "RainShelves$House" "pans" "I") (List.mem_of_getElem? (i := 1) rfl)
  have fL34 := hts (.fieldLink RX2 34 "RainShelves$House" "least" "I") (List.mem_of_getElem? (i := 2) rfl)
  have fL37 := hts (.fieldLink RX2 37 "RainShelves$House" "shelf" "I") (List.mem_of_getElem? (i := 3) rfl)
  unfold f_X2_become at hf
  have L26 : ∀ (house_pans_26 : Int32) (house_least_26 : Int32) (house_shelf_26 : Int32) (n26 : Nat) (v2_26 : Int32) (house_years_26 : Nat → Int32) (house_spoons_26 : Nat → Int32) (house_shrinks_26 : Nat → Int32) (house_sorts_26 : Nat → Int32) (house_byAge_26 : Nat → Int32), f_X2_become_L26 draft_years draft_spoons draft_shrinks draft_sorts draft_byAge house_pans_26 house_least_26 house_shelf_26 n26 v2_26 house_years_26 house_spoons_26 house_shrinks_26 house_sorts_26 house_byAge_26 = some out → ∀ (H : Heap) (locs : List Loc) (ls : Array Slot), PD D A [(a_draft, .inr (2, [.int draft_pans, .int draft_least, .int draft_shelf, .ref a_draft_years, .ref a_draft_spoons, .ref a_draft_shrinks, .ref a_draft_sorts, .ref a_draft_byAge])), (a_house, .inr (2, [.int house_pans_26, .int house_least_26, .int house_shelf_26, .ref a_house_years, .ref a_house_spoons, .ref a_house_shrinks, .ref a_house_sorts, .ref a_house_byAge])), (a_draft_years, .inl (cI, 7, .inl draft_years)), (a_house_years, .inl (cI, 7, .inl house_years_26)), (a_draft_spoons, .inl (cI, 7, .inl draft_spoons)), (a_house_spoons, .inl (cI, 7, .inl house_spoons_26)), (a_draft_shrinks, .inl (cI, 7, .inl draft_shrinks)), (a_house_shrinks, .inl (cI, 7, .inl house_shrinks_26)), (a_draft_sorts, .inl (cI, 7, .inl draft_sorts)), (a_house_sorts, .inl (cI, 7, .inl house_sorts_26)), (a_draft_byAge, .inl (cI, 7, .inl draft_byAge)), (a_house_byAge, .inl (cI, 7, .inl house_byAge_26))] H → va_S A s.heap H locs → lv_has ls 3 [(0, .ref a_house), (1, .ref a_draft), (2, .int v2_26)] → W p l e rmX2_become s m ([.ref a_house, .ref a_draft] : List Value).toArray below meth c H locs 0 0 Q (F0 m 26 ls []) := by
    intro house_pans_26 house_least_26 house_shelf_26 n26
    induction n26 with
    | zero => intro v2_26 house_years_26 house_spoons_26 house_shrinks_26 house_sorts_26 house_byAge_26 hf; cases hf
    | succ n26 ih26 =>
      intro v2_26 house_years_26 house_spoons_26 house_shrinks_26 house_sorts_26 house_byAge_26 hf H locs ls hPD hS hl
      obtain ⟨hP, hD⟩ := hPD
      have hf : f_X2_become_B26 draft_years draft_spoons draft_shrinks draft_sorts draft_byAge house_pans_26 house_least_26 house_shelf_26 (f_X2_become_L26 draft_years draft_spoons draft_shrinks draft_sorts draft_byAge house_pans_26 house_least_26 house_shelf_26 n26) v2_26 house_years_26 house_spoons_26 house_shrinks_26 house_sorts_26 house_byAge_26 = some out := hf
      unfold f_X2_become_B26 at hf
      refine lv_iload_n hx hb dX2_become_26 rfl (lv_at hl 2 rfl) ?_
      refine lv_bipush (v := 7) hx hb dX2_become_27 (by decide) ?_
      refine lv_icmp_ge (tgt := 98) hx hb dX2_become_29 (by decide) (fun hc1 => ?_) (fun hc1 => ?_)
      · have hf := if_t hf hc1
        have he := Option.some.inj hf
        subst he
        exact hret _ _ _ _ dX2_become_98 hP hD hS
      · have hf := if_f hf hc1
        refine lv_aload_n hx hb dX2_become_32 rfl (lv_at hl 0 rfl) ?_
        refine va_get (D := D) (ci := 2) (v := .ref a_house_years) (C := RX2) (T := TX2) (N := 8) hx hb hts hiX2_become_2 hown hE.1 hP 1 rfl rfl 3 (by decide) fL9 (fun _ h9 => h9) rfl dX2_become_33 ?_
        refine lv_iload_n hx hb dX2_become_36 rfl (lv_at hl 2 rfl) ?_
        refine lv_aload_n hx hb dX2_become_37 rfl (lv_at hl 1 rfl) ?_
        refine va_get (D := D) (ci := 2) (v := .ref a_draft_years) (C := RX2) (T := TX2) (N := 8) hx hb hts hiX2_become_2 hown hE.1 hP 0 rfl rfl 3 (by decide) fL9 (fun _ h9 => h9) rfl dX2_become_38 ?_
        refine lv_iload_n hx hb dX2_become_41 rfl (lv_at hl 2 rfl) ?_
        obtain ⟨hc2, hf⟩ := ck_some hf
        refine va_iald hx hb hE.1 hP 2 0 rfl rfl (ix_in hc2) dX2_become_42 ?_
        obtain ⟨hc3, hf⟩ := ck_some hf
        refine va_iast hx hb hE.1 hP hD hS 3 0 rfl rfl (ix_in hc3) dX2_become_43 (fun H locs hP hD hS => ?_)
        have hPD : PD D A [(a_draft, .inr (2, [.int draft_pans, .int draft_least, .int draft_shelf, .ref a_draft_years, .ref a_draft_spoons, .ref a_draft_shrinks, .ref a_draft_sorts, .ref a_draft_byAge])), (a_house, .inr (2, [.int house_pans_26, .int house_least_26, .int house_shelf_26, .ref a_house_years, .ref a_house_spoons, .ref a_house_shrinks, .ref a_house_sorts, .ref a_house_byAge])), (a_draft_years, .inl (cI, 7, .inl draft_years)), (a_house_years, .inl (cI, 7, .inl (upd house_years_26 v2_26.toNatClampNeg (draft_years v2_26.toNatClampNeg)))), (a_draft_spoons, .inl (cI, 7, .inl draft_spoons)), (a_house_spoons, .inl (cI, 7, .inl house_spoons_26)), (a_draft_shrinks, .inl (cI, 7, .inl draft_shrinks)), (a_house_shrinks, .inl (cI, 7, .inl house_shrinks_26)), (a_draft_sorts, .inl (cI, 7, .inl draft_sorts)), (a_house_sorts, .inl (cI, 7, .inl house_sorts_26)), (a_draft_byAge, .inl (cI, 7, .inl draft_byAge)), (a_house_byAge, .inl (cI, 7, .inl house_byAge_26))] H := ⟨hP, hD⟩
        obtain ⟨hP, hD⟩ := hPD
        refine lv_aload_n hx hb dX2_become_44 rfl (lv_at hl 0 rfl) ?_
        refine va_get (D := D) (ci := 2) (v := .ref a_house_spoons) (C := RX2) (T := TX2) (N := 8) hx hb hts hiX2_become_2 hown hE.1 hP 1 rfl rfl 4 (by decide) fL15 (fun _ h9 => h9) rfl dX2_become_45 ?_
        refine lv_iload_n hx hb dX2_become_48 rfl (lv_at hl 2 rfl) ?_
        refine lv_aload_n hx hb dX2_become_49 rfl (lv_at hl 1 rfl) ?_
        refine va_get (D := D) (ci := 2) (v := .ref a_draft_spoons) (C := RX2) (T := TX2) (N := 8) hx hb hts hiX2_become_2 hown hE.1 hP 0 rfl rfl 4 (by decide) fL15 (fun _ h9 => h9) rfl dX2_become_50 ?_
        refine lv_iload_n hx hb dX2_become_53 rfl (lv_at hl 2 rfl) ?_
        obtain ⟨hc4, hf⟩ := ck_some hf
        refine va_iald hx hb hE.1 hP 4 0 rfl rfl (ix_in hc4) dX2_become_54 ?_
        obtain ⟨hc5, hf⟩ := ck_some hf
        refine va_iast hx hb hE.1 hP hD hS 5 0 rfl rfl (ix_in hc5) dX2_become_55 (fun H locs hP hD hS => ?_)
        have hPD : PD D A [(a_draft, .inr (2, [.int draft_pans, .int draft_least, .int draft_shelf, .ref a_draft_years, .ref a_draft_spoons, .ref a_draft_shrinks, .ref a_draft_sorts, .ref a_draft_byAge])), (a_house, .inr (2, [.int house_pans_26, .int house_least_26, .int house_shelf_26, .ref a_house_years, .ref a_house_spoons, .ref a_house_shrinks, .ref a_house_sorts, .ref a_house_byAge])), (a_draft_years, .inl (cI, 7, .inl draft_years)), (a_house_years, .inl (cI, 7, .inl (upd house_years_26 v2_26.toNatClampNeg (draft_years v2_26.toNatClampNeg)))), (a_draft_spoons, .inl (cI, 7, .inl draft_spoons)), (a_house_spoons, .inl (cI, 7, .inl (upd house_spoons_26 v2_26.toNatClampNeg (draft_spoons v2_26.toNatClampNeg)))), (a_draft_shrinks, .inl (cI, 7, .inl draft_shrinks)), (a_house_shrinks, .inl (cI, 7, .inl house_shrinks_26)), (a_draft_sorts, .inl (cI, 7, .inl draft_sorts)), (a_house_sorts, .inl (cI, 7, .inl house_sorts_26)), (a_draft_byAge, .inl (cI, 7, .inl draft_byAge)), (a_house_byAge, .inl (cI, 7, .inl house_byAge_26))] H := ⟨hP, hD⟩
        obtain ⟨hP, hD⟩ := hPD
        refine lv_aload_n hx hb dX2_become_56 rfl (lv_at hl 0 rfl) ?_
        refine va_get (D := D) (ci := 2) (v := .ref a_house_shrinks) (C := RX2) (T := TX2) (N := 8) hx hb hts hiX2_become_2 hown hE.1 hP 1 rfl rfl 5 (by decide) fL18 (fun _ h9 => h9) rfl dX2_become_57 ?_
        refine lv_iload_n hx hb dX2_become_60 rfl (lv_at hl 2 rfl) ?_
        refine lv_aload_n hx hb dX2_become_61 rfl (lv_at hl 1 rfl) ?_
        refine va_get (D := D) (ci := 2) (v := .ref a_draft_shrinks) (C := RX2) (T := TX2) (N := 8) hx hb hts hiX2_become_2 hown hE.1 hP 0 rfl rfl 5 (by decide) fL18 (fun _ h9 => h9) rfl dX2_become_62 ?_
        refine lv_iload_n hx hb dX2_become_65 rfl (lv_at hl 2 rfl) ?_
        obtain ⟨hc6, hf⟩ := ck_some hf
        refine va_iald hx hb hE.1 hP 6 0 rfl rfl (ix_in hc6) dX2_become_66 ?_
        obtain ⟨hc7, hf⟩ := ck_some hf
        refine va_iast hx hb hE.1 hP hD hS 7 0 rfl rfl (ix_in hc7) dX2_become_67 (fun H locs hP hD hS => ?_)
        have hPD : PD D A [(a_draft, .inr (2, [.int draft_pans, .int draft_least, .int draft_shelf, .ref a_draft_years, .ref a_draft_spoons, .ref a_draft_shrinks, .ref a_draft_sorts, .ref a_draft_byAge])), (a_house, .inr (2, [.int house_pans_26, .int house_least_26, .int house_shelf_26, .ref a_house_years, .ref a_house_spoons, .ref a_house_shrinks, .ref a_house_sorts, .ref a_house_byAge])), (a_draft_years, .inl (cI, 7, .inl draft_years)), (a_house_years, .inl (cI, 7, .inl (upd house_years_26 v2_26.toNatClampNeg (draft_years v2_26.toNatClampNeg)))), (a_draft_spoons, .inl (cI, 7, .inl draft_spoons)), (a_house_spoons, .inl (cI, 7, .inl (upd house_spoons_26 v2_26.toNatClampNeg (draft_spoons v2_26.toNatClampNeg)))), (a_draft_shrinks, .inl (cI, 7, .inl draft_shrinks)), (a_house_shrinks, .inl (cI, 7, .inl (upd house_shrinks_26 v2_26.toNatClampNeg (draft_shrinks v2_26.toNatClampNeg)))), (a_draft_sorts, .inl (cI, 7, .inl draft_sorts)), (a_house_sorts, .inl (cI, 7, .inl house_sorts_26)), (a_draft_byAge, .inl (cI, 7, .inl draft_byAge)), (a_house_byAge, .inl (cI, 7, .inl house_byAge_26))] H := ⟨hP, hD⟩
        obtain ⟨hP, hD⟩ := hPD
        refine lv_aload_n hx hb dX2_become_68 rfl (lv_at hl 0 rfl) ?_
        refine va_get (D := D) (ci := 2) (v := .ref a_house_sorts) (C := RX2) (T := TX2) (N := 8) hx hb hts hiX2_become_2 hown hE.1 hP 1 rfl rfl 6 (by decide) fL21 (fun _ h9 => h9) rfl dX2_become_69 ?_
        refine lv_iload_n hx hb dX2_become_72 rfl (lv_at hl 2 rfl) ?_
        refine lv_aload_n hx hb dX2_become_73 rfl (lv_at hl 1 rfl) ?_
        refine va_get (D := D) (ci := 2) (v := .ref a_draft_sorts) (C := RX2) (T := TX2) (N := 8) hx hb hts hiX2_become_2 hown hE.1 hP 0 rfl rfl 6 (by decide) fL21 (fun _ h9 => h9) rfl dX2_become_74 ?_
        refine lv_iload_n hx hb dX2_become_77 rfl (lv_at hl 2 rfl) ?_
        obtain ⟨hc8, hf⟩ := ck_some hf
        refine va_iald hx hb hE.1 hP 8 0 rfl rfl (ix_in hc8) dX2_become_78 ?_
        obtain ⟨hc9, hf⟩ := ck_some hf
        refine va_iast hx hb hE.1 hP hD hS 9 0 rfl rfl (ix_in hc9) dX2_become_79 (fun H locs hP hD hS => ?_)
        have hPD : PD D A [(a_draft, .inr (2, [.int draft_pans, .int draft_least, .int draft_shelf, .ref a_draft_years, .ref a_draft_spoons, .ref a_draft_shrinks, .ref a_draft_sorts, .ref a_draft_byAge])), (a_house, .inr (2, [.int house_pans_26, .int house_least_26, .int house_shelf_26, .ref a_house_years, .ref a_house_spoons, .ref a_house_shrinks, .ref a_house_sorts, .ref a_house_byAge])), (a_draft_years, .inl (cI, 7, .inl draft_years)), (a_house_years, .inl (cI, 7, .inl (upd house_years_26 v2_26.toNatClampNeg (draft_years v2_26.toNatClampNeg)))), (a_draft_spoons, .inl (cI, 7, .inl draft_spoons)), (a_house_spoons, .inl (cI, 7, .inl (upd house_spoons_26 v2_26.toNatClampNeg (draft_spoons v2_26.toNatClampNeg)))), (a_draft_shrinks, .inl (cI, 7, .inl draft_shrinks)), (a_house_shrinks, .inl (cI, 7, .inl (upd house_shrinks_26 v2_26.toNatClampNeg (draft_shrinks v2_26.toNatClampNeg)))), (a_draft_sorts, .inl (cI, 7, .inl draft_sorts)), (a_house_sorts, .inl (cI, 7, .inl (upd house_sorts_26 v2_26.toNatClampNeg (draft_sorts v2_26.toNatClampNeg)))), (a_draft_byAge, .inl (cI, 7, .inl draft_byAge)), (a_house_byAge, .inl (cI, 7, .inl house_byAge_26))] H := ⟨hP, hD⟩
        obtain ⟨hP, hD⟩ := hPD
        refine lv_aload_n hx hb dX2_become_80 rfl (lv_at hl 0 rfl) ?_
        refine va_get (D := D) (ci := 2) (v := .ref a_house_byAge) (C := RX2) (T := TX2) (N := 8) hx hb hts hiX2_become_2 hown hE.1 hP 1 rfl rfl 7 (by decide) fL24 (fun _ h9 => h9) rfl dX2_become_81 ?_
        refine lv_iload_n hx hb dX2_become_84 rfl (lv_at hl 2 rfl) ?_
        refine lv_aload_n hx hb dX2_become_85 rfl (lv_at hl 1 rfl) ?_
        refine va_get (D := D) (ci := 2) (v := .ref a_draft_byAge) (C := RX2) (T := TX2) (N := 8) hx hb hts hiX2_become_2 hown hE.1 hP 0 rfl rfl 7 (by decide) fL24 (fun _ h9 => h9) rfl dX2_become_86 ?_
        refine lv_iload_n hx hb dX2_become_89 rfl (lv_at hl 2 rfl) ?_
        obtain ⟨hc10, hf⟩ := ck_some hf
        refine va_iald hx hb hE.1 hP 10 0 rfl rfl (ix_in hc10) dX2_become_90 ?_
        obtain ⟨hc11, hf⟩ := ck_some hf
        refine va_iast hx hb hE.1 hP hD hS 11 0 rfl rfl (ix_in hc11) dX2_become_91 (fun H locs hP hD hS => ?_)
        have hPD : PD D A [(a_draft, .inr (2, [.int draft_pans, .int draft_least, .int draft_shelf, .ref a_draft_years, .ref a_draft_spoons, .ref a_draft_shrinks, .ref a_draft_sorts, .ref a_draft_byAge])), (a_house, .inr (2, [.int house_pans_26, .int house_least_26, .int house_shelf_26, .ref a_house_years, .ref a_house_spoons, .ref a_house_shrinks, .ref a_house_sorts, .ref a_house_byAge])), (a_draft_years, .inl (cI, 7, .inl draft_years)), (a_house_years, .inl (cI, 7, .inl (upd house_years_26 v2_26.toNatClampNeg (draft_years v2_26.toNatClampNeg)))), (a_draft_spoons, .inl (cI, 7, .inl draft_spoons)), (a_house_spoons, .inl (cI, 7, .inl (upd house_spoons_26 v2_26.toNatClampNeg (draft_spoons v2_26.toNatClampNeg)))), (a_draft_shrinks, .inl (cI, 7, .inl draft_shrinks)), (a_house_shrinks, .inl (cI, 7, .inl (upd house_shrinks_26 v2_26.toNatClampNeg (draft_shrinks v2_26.toNatClampNeg)))), (a_draft_sorts, .inl (cI, 7, .inl draft_sorts)), (a_house_sorts, .inl (cI, 7, .inl (upd house_sorts_26 v2_26.toNatClampNeg (draft_sorts v2_26.toNatClampNeg)))), (a_draft_byAge, .inl (cI, 7, .inl draft_byAge)), (a_house_byAge, .inl (cI, 7, .inl (upd house_byAge_26 v2_26.toNatClampNeg (draft_byAge v2_26.toNatClampNeg))))] H := ⟨hP, hD⟩
        obtain ⟨hP, hD⟩ := hPD
        refine lv_iinc (v := (v2_26 + 1)) (lv' := [(2, .int (v2_26 + 1)), (0, .ref a_house), (1, .ref a_draft)]) hx hb dX2_become_92 hl (k := 2) rfl (ii_p1 _) (by decide) rfl (fun ls hl => ?_)
        refine lv_goto (tgt := 26) hx hb dX2_become_95 (by decide) ?_
        exact ih26 (v2_26 + 1) (upd house_years_26 v2_26.toNatClampNeg (draft_years v2_26.toNatClampNeg)) (upd house_spoons_26 v2_26.toNatClampNeg (draft_spoons v2_26.toNatClampNeg)) (upd house_shrinks_26 v2_26.toNatClampNeg (draft_shrinks v2_26.toNatClampNeg)) (upd house_sorts_26 v2_26.toNatClampNeg (draft_sorts v2_26.toNatClampNeg)) (upd house_byAge_26 v2_26.toNatClampNeg (draft_byAge v2_26.toNatClampNeg)) hf _ _ _ ⟨hP, hD⟩ hS (lv_sub hl [1, 2, 0] rfl)
  refine lv_aload_n hx hb dX2_become_0 rfl (lv_at hl 0 rfl) ?_
  refine lv_aload_n hx hb dX2_become_1 rfl (lv_at hl 1 rfl) ?_
  refine va_get (D := D) (ci := 2) (v := .int draft_pans) (C := RX2) (T := TX2) (N := 8) hx hb hts hiX2_become_2 hown hE.1 hP 0 rfl rfl 0 (by decide) fL30 (fun _ h9 => h9) rfl dX2_become_2 ?_
  refine va_put (D := D) (ci := 2) (v := .int draft_pans) (ty := .int) (C := RX2) (T := TX2) (N := 8) hx hb hts hiX2_become_2 tyX2 tyX2_ok nmX2 hown hE.1 hP hD hS 1 rfl rfl 0 (by decide) fL30 (fun _ h9 => h9) rfl (tyX2_ok 0 (by decide)) rfl rfl (Nat.le_of_ble_eq_true rfl) dX2_become_5 (fun H locs hP hD hS => ?_)
  have hPD : PD D A [(a_draft, .inr (2, [.int draft_pans, .int draft_least, .int draft_shelf, .ref a_draft_years, .ref a_draft_spoons, .ref a_draft_shrinks, .ref a_draft_sorts, .ref a_draft_byAge])), (a_house, .inr (2, [.int draft_pans, .int house_least, .int house_shelf, .ref a_house_years, .ref a_house_spoons, .ref a_house_shrinks, .ref a_house_sorts, .ref a_house_byAge])), (a_draft_years, .inl (cI, 7, .inl draft_years)), (a_house_years, .inl (cI, 7, .inl house_years)), (a_draft_spoons, .inl (cI, 7, .inl draft_spoons)), (a_house_spoons, .inl (cI, 7, .inl house_spoons)), (a_draft_shrinks, .inl (cI, 7, .inl draft_shrinks)), (a_house_shrinks, .inl (cI, 7, .inl house_shrinks)), (a_draft_sorts, .inl (cI, 7, .inl draft_sorts)), (a_house_sorts, .inl (cI, 7, .inl house_sorts)), (a_draft_byAge, .inl (cI, 7, .inl draft_byAge)), (a_house_byAge, .inl (cI, 7, .inl house_byAge))] H := ⟨hP, hD⟩
  obtain ⟨hP, hD⟩ := hPD
  refine lv_aload_n hx hb dX2_become_8 rfl (lv_at hl 0 rfl) ?_
  refine lv_aload_n hx hb dX2_become_9 rfl (lv_at hl 1 rfl) ?_
  refine va_get (D := D) (ci := 2) (v := .int draft_least) (C := RX2) (T := TX2) (N := 8) hx hb hts hiX2_become_2 hown hE.1 hP 0 rfl rfl 1 (by decide) fL34 (fun _ h9 => h9) rfl dX2_become_10 ?_
  refine va_put (D := D) (ci := 2) (v := .int draft_least) (ty := .int) (C := RX2) (T := TX2) (N := 8) hx hb hts hiX2_become_2 tyX2 tyX2_ok nmX2 hown hE.1 hP hD hS 1 rfl rfl 1 (by decide) fL34 (fun _ h9 => h9) rfl (tyX2_ok 1 (by decide)) rfl rfl (Nat.le_of_ble_eq_true rfl) dX2_become_13 (fun H locs hP hD hS => ?_)
  have hPD : PD D A [(a_draft, .inr (2, [.int draft_pans, .int draft_least, .int draft_shelf, .ref a_draft_years, .ref a_draft_spoons, .ref a_draft_shrinks, .ref a_draft_sorts, .ref a_draft_byAge])), (a_house, .inr (2, [.int draft_pans, .int draft_least, .int house_shelf, .ref a_house_years, .ref a_house_spoons, .ref a_house_shrinks, .ref a_house_sorts, .ref a_house_byAge])), (a_draft_years, .inl (cI, 7, .inl draft_years)), (a_house_years, .inl (cI, 7, .inl house_years)), (a_draft_spoons, .inl (cI, 7, .inl draft_spoons)), (a_house_spoons, .inl (cI, 7, .inl house_spoons)), (a_draft_shrinks, .inl (cI, 7, .inl draft_shrinks)), (a_house_shrinks, .inl (cI, 7, .inl house_shrinks)), (a_draft_sorts, .inl (cI, 7, .inl draft_sorts)), (a_house_sorts, .inl (cI, 7, .inl house_sorts)), (a_draft_byAge, .inl (cI, 7, .inl draft_byAge)), (a_house_byAge, .inl (cI, 7, .inl house_byAge))] H := ⟨hP, hD⟩
  obtain ⟨hP, hD⟩ := hPD
  refine lv_aload_n hx hb dX2_become_16 rfl (lv_at hl 0 rfl) ?_
  refine lv_aload_n hx hb dX2_become_17 rfl (lv_at hl 1 rfl) ?_
  refine va_get (D := D) (ci := 2) (v := .int draft_shelf) (C := RX2) (T := TX2) (N := 8) hx hb hts hiX2_become_2 hown hE.1 hP 0 rfl rfl 2 (by decide) fL37 (fun _ h9 => h9) rfl dX2_become_18 ?_
  refine va_put (D := D) (ci := 2) (v := .int draft_shelf) (ty := .int) (C := RX2) (T := TX2) (N := 8) hx hb hts hiX2_become_2 tyX2 tyX2_ok nmX2 hown hE.1 hP hD hS 1 rfl rfl 2 (by decide) fL37 (fun _ h9 => h9) rfl (tyX2_ok 2 (by decide)) rfl rfl (Nat.le_of_ble_eq_true rfl) dX2_become_21 (fun H locs hP hD hS => ?_)
  have hPD : PD D A [(a_draft, .inr (2, [.int draft_pans, .int draft_least, .int draft_shelf, .ref a_draft_years, .ref a_draft_spoons, .ref a_draft_shrinks, .ref a_draft_sorts, .ref a_draft_byAge])), (a_house, .inr (2, [.int draft_pans, .int draft_least, .int draft_shelf, .ref a_house_years, .ref a_house_spoons, .ref a_house_shrinks, .ref a_house_sorts, .ref a_house_byAge])), (a_draft_years, .inl (cI, 7, .inl draft_years)), (a_house_years, .inl (cI, 7, .inl house_years)), (a_draft_spoons, .inl (cI, 7, .inl draft_spoons)), (a_house_spoons, .inl (cI, 7, .inl house_spoons)), (a_draft_shrinks, .inl (cI, 7, .inl draft_shrinks)), (a_house_shrinks, .inl (cI, 7, .inl house_shrinks)), (a_draft_sorts, .inl (cI, 7, .inl draft_sorts)), (a_house_sorts, .inl (cI, 7, .inl house_sorts)), (a_draft_byAge, .inl (cI, 7, .inl draft_byAge)), (a_house_byAge, .inl (cI, 7, .inl house_byAge))] H := ⟨hP, hD⟩
  obtain ⟨hP, hD⟩ := hPD
  refine lv_iconst (v := 0) hx hb dX2_become_24 (by decide) ?_
  refine lv_istore_n (lv' := [(2, .int 0), (0, .ref a_house), (1, .ref a_draft)]) hx hb dX2_become_25 rfl hl (by decide) rfl (fun ls hl => ?_)
  exact L26 draft_pans draft_least draft_shelf FU 0 house_years house_spoons house_shrinks house_sorts house_byAge hf _ _ _ ⟨hP, hD⟩ hS (lv_sub hl [1, 2, 0] rfl)
abbrev rmX2_hailPans : Room := { frames := 0, cells := 0, slots := 0, locals := 0 }
theorem hiX2_hailPans_2 : ∀ w ∈ wsX20, w ∈ wsX2_hailPans := fun w h => (goodIn_r (big := wsX2_hailPans) wsX20 [3, 4, 5, 6, 7, 8, 9, 10] rfl (by decide +kernel) w h).1
set_option maxRecDepth 100000 in
set_option maxHeartbeats 4000000 in
theorem c_X2_hailPans (l : Launch) (D : va_G) (cI cZ cR : ClassId) (a_house : Nat) (a_house_sorts : Nat) (a_house_years : Nat) (a_house_spoons : Nat) (a_house_shrinks : Nat) (a_house_byAge : Nat) (house_pans : Int32) (house_least : Int32) (house_shelf : Int32) (house_sorts : Nat → Int32) (out : Int32) (hf : f_X2_hailPans house_pans house_sorts = some out) : Ci l yX2_hailPans wsX2_hailPans rmX2_hailPans D cI cZ cR [.ref a_house] [(a_house, .inr (2, [.int house_pans, .int house_least, .int house_shelf, .ref a_house_years, .ref a_house_spoons, .ref a_house_shrinks, .ref a_house_sorts, .ref a_house_byAge])), (a_house_sorts, .inl (cI, 7, .inl house_sorts))] out [(a_house, .inr (2, [.int house_pans, .int house_least, .int house_shelf, .ref a_house_years, .ref a_house_spoons, .ref a_house_shrinks, .ref a_house_sorts, .ref a_house_byAge])), (a_house_sorts, .inl (cI, 7, .inl house_sorts))] := by
  refine ent_i (cc := cX2_hailPans) (maxL := 3) .int (by decide) rfl (Nat.le_of_ble_eq_true rfl) ?_
  intro p e s m below meth c A Q hx hb hml hown hts hE hA hP hD hS hret ls hl
  have hown : s.vm.findClass RX2 = some m.cls := hown
  have hl : lv_has ls 3 [(0, .ref a_house)] := hl
  have fL21 := hts (.fieldLink RX2 21 "RainShelves$House" "sorts" "[I") (List.mem_of_getElem? (i := 2) rfl)
  have fL30 := hts (.fieldLink RX2 30 "RainShelves$House" "pans" "I") (List.mem_of_getElem? (i := 1) rfl)
  unfold f_X2_hailPans at hf
  have L4 : ∀ (n4 : Nat) (v1_4 : Int32) (v2_4 : Int32), f_X2_hailPans_L4 house_pans house_sorts n4 v1_4 v2_4 = some out → ∀ (H : Heap) (locs : List Loc) (ls : Array Slot), PD D A [(a_house, .inr (2, [.int house_pans, .int house_least, .int house_shelf, .ref a_house_years, .ref a_house_spoons, .ref a_house_shrinks, .ref a_house_sorts, .ref a_house_byAge])), (a_house_sorts, .inl (cI, 7, .inl house_sorts))] H → va_S A s.heap H locs → lv_has ls 3 [(0, .ref a_house), (1, .int v1_4), (2, .int v2_4)] → W p l e rmX2_hailPans s m ([.ref a_house] : List Value).toArray below meth c H locs 0 0 Q (F0 m 4 ls []) := by
    intro  n4
    induction n4 with
    | zero => intro v1_4 v2_4 hf; cases hf
    | succ n4 ih4 =>
      intro v1_4 v2_4 hf H locs ls hPD hS hl
      obtain ⟨hP, hD⟩ := hPD
      have hf : f_X2_hailPans_B4 house_pans house_sorts (f_X2_hailPans_L4 house_pans house_sorts n4) v1_4 v2_4 = some out := hf
      unfold f_X2_hailPans_B4 at hf
      refine lv_iload_n hx hb dX2_hailPans_4 rfl (lv_at hl 2 rfl) ?_
      refine lv_aload_n hx hb dX2_hailPans_5 rfl (lv_at hl 0 rfl) ?_
      refine va_get (D := D) (ci := 2) (v := .int house_pans) (C := RX2) (T := TX2) (N := 8) hx hb hts hiX2_hailPans_2 hown hE.1 hP 0 rfl rfl 0 (by decide) fL30 (fun _ h9 => h9) rfl dX2_hailPans_6 ?_
      refine lv_icmp_ge (tgt := 34) hx hb dX2_hailPans_9 (by decide) (fun hc1 => ?_) (fun hc1 => ?_)
      · have hf := if_t hf hc1
        refine lv_iload_n hx hb dX2_hailPans_34 rfl (lv_at hl 1 rfl) ?_
        have he := Option.some.inj hf
        subst he
        exact hret _ _ _ _ dX2_hailPans_35 rfl hP hD hS
      · have hf := if_f hf hc1
        refine lv_aload_n hx hb dX2_hailPans_12 rfl (lv_at hl 0 rfl) ?_
        refine va_get (D := D) (ci := 2) (v := .ref a_house_sorts) (C := RX2) (T := TX2) (N := 8) hx hb hts hiX2_hailPans_2 hown hE.1 hP 0 rfl rfl 6 (by decide) fL21 (fun _ h9 => h9) rfl dX2_hailPans_13 ?_
        refine lv_iload_n hx hb dX2_hailPans_16 rfl (lv_at hl 2 rfl) ?_
        obtain ⟨hc2, hf⟩ := ck_some hf
        refine va_iald hx hb hE.1 hP 1 0 rfl rfl (ix_in hc2) dX2_hailPans_17 ?_
        refine lv_iconst (v := 2) hx hb dX2_hailPans_18 (by decide) ?_
        refine lv_icmp_ne (tgt := 28) hx hb dX2_hailPans_19 (by decide) (fun hc3 => ?_) (fun hc3 => ?_)
        · have hf := if_f hf hc3
          refine lv_iinc (v := (v2_4 + 1)) (lv' := [(2, .int (v2_4 + 1)), (0, .ref a_house), (1, .int v1_4)]) hx hb dX2_hailPans_28 hl (k := 2) rfl (ii_p1 _) (by decide) rfl (fun ls hl => ?_)
          refine lv_goto (tgt := 4) hx hb dX2_hailPans_31 (by decide) ?_
          exact ih4 v1_4 (v2_4 + 1) hf _ _ _ ⟨hP, hD⟩ hS (lv_sub hl [1, 2, 0] rfl)
        · have hf := if_t hf hc3
          refine lv_iload_n hx hb dX2_hailPans_22 rfl (lv_at hl 1 rfl) ?_
          refine lv_iconst (v := 1) hx hb dX2_hailPans_23 (by decide) ?_
          refine lv_iload_n hx hb dX2_hailPans_24 rfl (lv_at hl 2 rfl) ?_
          refine lv_ishl hx hb dX2_hailPans_25 ?_
          refine lv_ior hx hb dX2_hailPans_26 ?_
          refine lv_istore_n (lv' := [(1, .int (v1_4 ||| ((1 : Int32) <<< (v2_4 &&& 31)))), (0, .ref a_house), (2, .int v2_4)]) hx hb dX2_hailPans_27 rfl hl (by decide) rfl (fun ls hl => ?_)
          refine lv_iinc (v := (v2_4 + 1)) (lv' := [(2, .int (v2_4 + 1)), (1, .int (v1_4 ||| ((1 : Int32) <<< (v2_4 &&& 31)))), (0, .ref a_house)]) hx hb dX2_hailPans_28 hl (k := 2) rfl (ii_p1 _) (by decide) rfl (fun ls hl => ?_)
          refine lv_goto (tgt := 4) hx hb dX2_hailPans_31 (by decide) ?_
          exact ih4 (v1_4 ||| ((1 : Int32) <<< (v2_4 &&& 31))) (v2_4 + 1) hf _ _ _ ⟨hP, hD⟩ hS (lv_sub hl [2, 1, 0] rfl)
  refine lv_iconst (v := 0) hx hb dX2_hailPans_0 (by decide) ?_
  refine lv_istore_n (lv' := [(1, .int 0), (0, .ref a_house)]) hx hb dX2_hailPans_1 rfl hl (by decide) rfl (fun ls hl => ?_)
  refine lv_iconst (v := 0) hx hb dX2_hailPans_2 (by decide) ?_
  refine lv_istore_n (lv' := [(2, .int 0), (1, .int 0), (0, .ref a_house)]) hx hb dX2_hailPans_3 rfl hl (by decide) rfl (fun ls hl => ?_)
  exact L4  FU 0 0 hf _ _ _ ⟨hP, hD⟩ hS (lv_sub hl [2, 1, 0] rfl)
abbrev rmX2_spoonsOfLesser : Room := { frames := 0, cells := 0, slots := 0, locals := 0 }
theorem hiX2_spoonsOfLesser_2 : ∀ w ∈ wsX20, w ∈ wsX2_spoonsOfLesser := fun w h => (goodIn_r (big := wsX2_spoonsOfLesser) wsX20 [2, 3, 4, 5, 6, 7, 8, 9] rfl (by decide +kernel) w h).1
set_option maxRecDepth 100000 in
set_option maxHeartbeats 4000000 in
theorem c_X2_spoonsOfLesser (l : Launch) (D : va_G) (cI cZ cR : ClassId) (a_house : Nat) (a_house_years : Nat) (a_house_spoons : Nat) (a_house_shrinks : Nat) (a_house_sorts : Nat) (a_house_byAge : Nat) (house_pans : Int32) (house_least : Int32) (house_shelf : Int32) (house_years : Nat → Int32) (v1 : Int32) (v2 : Int32) (v3 : Int32) (v4 : Int32) (out : Int32) (hf : f_X2_spoonsOfLesser house_years v1 v2 v3 v4 = some out) : Ci l yX2_spoonsOfLesser wsX2_spoonsOfLesser rmX2_spoonsOfLesser D cI cZ cR [.ref a_house, .int v1, .int v2, .int v3, .int v4] [(a_house, .inr (2, [.int house_pans, .int house_least, .int house_shelf, .ref a_house_years, .ref a_house_spoons, .ref a_house_shrinks, .ref a_house_sorts, .ref a_house_byAge])), (a_house_years, .inl (cI, 7, .inl house_years))] out [(a_house, .inr (2, [.int house_pans, .int house_least, .int house_shelf, .ref a_house_years, .ref a_house_spoons, .ref a_house_shrinks, .ref a_house_sorts, .ref a_house_byAge])), (a_house_years, .inl (cI, 7, .inl house_years))] := by
  refine ent_i (cc := cX2_spoonsOfLesser) (maxL := 6) .int (by decide) rfl (Nat.le_of_ble_eq_true rfl) ?_
  intro p e s m below meth c A Q hx hb hml hown hts hE hA hP hD hS hret ls hl
  have hown : s.vm.findClass RX2 = some m.cls := hown
  have hl : lv_has ls 6 [(0, .ref a_house), (1, .int v1), (2, .int v2), (3, .int v3), (4, .int v4)] := hl
  have fL9 := hts (.fieldLink RX2 9 "RainShelves$House" "years" "[I") (List.mem_of_getElem? (i := 1) rfl)
  unfold f_X2_spoonsOfLesser at hf
  have L20 : ∀ (n20 : Nat) (v5_20 : Int32), f_X2_spoonsOfLesser_L20 house_years v1 v2 v3 v4 n20 v5_20 = some out → ∀ (H : Heap) (locs : List Loc) (ls : Array Slot), PD D A [(a_house, .inr (2, [.int house_pans, .int house_least, .int house_shelf, .ref a_house_years, .ref a_house_spoons, .ref a_house_shrinks, .ref a_house_sorts, .ref a_house_byAge])), (a_house_years, .inl (cI, 7, .inl house_years))] H → va_S A s.heap H locs → lv_has ls 6 [(0, .ref a_house), (1, .int v1), (2, .int v2), (3, .int v3), (4, .int v4), (5, .int v5_20)] → W p l e rmX2_spoonsOfLesser s m ([.ref a_house, .int v1, .int v2, .int v3, .int v4] : List Value).toArray below meth c H locs 0 0 Q (F0 m 20 ls []) := by
    intro  n20
    induction n20 with
    | zero => intro v5_20 hf; cases hf
    | succ n20 ih20 =>
      intro v5_20 hf H locs ls hPD hS hl
      obtain ⟨hP, hD⟩ := hPD
      have hf : f_X2_spoonsOfLesser_B20 house_years v1 v2 v3 v4 (f_X2_spoonsOfLesser_L20 house_years v1 v2 v3 v4 n20) v5_20 = some out := hf
      unfold f_X2_spoonsOfLesser_B20 at hf
      refine lv_iload hx hb dX2_spoonsOfLesser_20 (lv_at hl 5 rfl) ?_
      refine lv_iload_n hx hb dX2_spoonsOfLesser_22 rfl (lv_at hl 3 rfl) ?_
      refine lv_icmp_ge (tgt := 61) hx hb dX2_spoonsOfLesser_23 (by decide) (fun hc1 => ?_) (fun hc1 => ?_)
      · have hf := if_t hf hc1
        refine lv_iconst (v := 0) hx hb dX2_spoonsOfLesser_61 (by decide) ?_
        have he := Option.some.inj hf
        subst he
        exact hret _ _ _ _ dX2_spoonsOfLesser_62 rfl hP hD hS
      · have hf := if_f hf hc1
        refine lv_iload hx hb dX2_spoonsOfLesser_26 (lv_at hl 5 rfl) ?_
        refine lv_aload_n hx hb dX2_spoonsOfLesser_28 rfl (lv_at hl 0 rfl) ?_
        refine va_get (D := D) (ci := 2) (v := .ref a_house_years) (C := RX2) (T := TX2) (N := 8) hx hb hts hiX2_spoonsOfLesser_2 hown hE.1 hP 0 rfl rfl 3 (by decide) fL9 (fun _ h9 => h9) rfl dX2_spoonsOfLesser_29 ?_
        refine lv_iload_n hx hb dX2_spoonsOfLesser_32 rfl (lv_at hl 1 rfl) ?_
        obtain ⟨hc2, hf⟩ := ck_some hf
        refine va_iald hx hb hE.1 hP 1 0 rfl rfl (ix_in hc2) dX2_spoonsOfLesser_33 ?_
        refine lv_imul hx hb dX2_spoonsOfLesser_34 ?_
        refine lv_iload_n hx hb dX2_spoonsOfLesser_35 rfl (lv_at hl 3 rfl) ?_
        refine lv_iload hx hb dX2_spoonsOfLesser_36 (lv_at hl 5 rfl) ?_
        refine lv_isub hx hb dX2_spoonsOfLesser_38 ?_
        refine lv_aload_n hx hb dX2_spoonsOfLesser_39 rfl (lv_at hl 0 rfl) ?_
        refine va_get (D := D) (ci := 2) (v := .ref a_house_years) (C := RX2) (T := TX2) (N := 8) hx hb hts hiX2_spoonsOfLesser_2 hown hE.1 hP 0 rfl rfl 3 (by decide) fL9 (fun _ h9 => h9) rfl dX2_spoonsOfLesser_40 ?_
        refine lv_iload_n hx hb dX2_spoonsOfLesser_43 rfl (lv_at hl 2 rfl) ?_
        obtain ⟨hc3, hf⟩ := ck_some hf
        refine va_iald hx hb hE.1 hP 1 0 rfl rfl (ix_in hc3) dX2_spoonsOfLesser_44 ?_
        refine lv_imul hx hb dX2_spoonsOfLesser_45 ?_
        refine lv_iadd hx hb dX2_spoonsOfLesser_46 ?_
        refine lv_iload hx hb dX2_spoonsOfLesser_47 (lv_at hl 4 rfl) ?_
        refine lv_icmp_ne (tgt := 55) hx hb dX2_spoonsOfLesser_49 (by decide) (fun hc4 => ?_) (fun hc4 => ?_)
        · have hf := if_f hf hc4
          refine lv_iinc (v := (v5_20 + 1)) (lv' := [(5, .int (v5_20 + 1)), (0, .ref a_house), (1, .int v1), (2, .int v2), (3, .int v3), (4, .int v4)]) hx hb dX2_spoonsOfLesser_55 hl (k := 5) rfl (ii_p1 _) (by decide) rfl (fun ls hl => ?_)
          refine lv_goto (tgt := 20) hx hb dX2_spoonsOfLesser_58 (by decide) ?_
          exact ih20 (v5_20 + 1) hf _ _ _ ⟨hP, hD⟩ hS (lv_sub hl [1, 2, 3, 4, 5, 0] rfl)
        · have hf := if_t hf hc4
          refine lv_iload hx hb dX2_spoonsOfLesser_52 (lv_at hl 5 rfl) ?_
          have he := Option.some.inj hf
          subst he
          exact hret _ _ _ _ dX2_spoonsOfLesser_54 rfl hP hD hS
  refine lv_aload_n hx hb dX2_spoonsOfLesser_0 rfl (lv_at hl 0 rfl) ?_
  refine va_get (D := D) (ci := 2) (v := .ref a_house_years) (C := RX2) (T := TX2) (N := 8) hx hb hts hiX2_spoonsOfLesser_2 hown hE.1 hP 0 rfl rfl 3 (by decide) fL9 (fun _ h9 => h9) rfl dX2_spoonsOfLesser_1 ?_
  refine lv_iload_n hx hb dX2_spoonsOfLesser_4 rfl (lv_at hl 1 rfl) ?_
  obtain ⟨hc5, hf⟩ := ck_some hf
  refine va_iald hx hb hE.1 hP 1 0 rfl rfl (ix_in hc5) dX2_spoonsOfLesser_5 ?_
  refine lv_aload_n hx hb dX2_spoonsOfLesser_6 rfl (lv_at hl 0 rfl) ?_
  refine va_get (D := D) (ci := 2) (v := .ref a_house_years) (C := RX2) (T := TX2) (N := 8) hx hb hts hiX2_spoonsOfLesser_2 hown hE.1 hP 0 rfl rfl 3 (by decide) fL9 (fun _ h9 => h9) rfl dX2_spoonsOfLesser_7 ?_
  refine lv_iload_n hx hb dX2_spoonsOfLesser_10 rfl (lv_at hl 2 rfl) ?_
  obtain ⟨hc6, hf⟩ := ck_some hf
  refine va_iald hx hb hE.1 hP 1 0 rfl rfl (ix_in hc6) dX2_spoonsOfLesser_11 ?_
  refine lv_icmp_ne (tgt := 17) hx hb dX2_spoonsOfLesser_12 (by decide) (fun hc7 => ?_) (fun hc7 => ?_)
  · have hf := if_f hf hc7
    refine lv_iconst (v := 1) hx hb dX2_spoonsOfLesser_17 (by decide) ?_
    refine lv_istore (lv' := [(5, .int 1), (0, .ref a_house), (1, .int v1), (2, .int v2), (3, .int v3), (4, .int v4)]) hx hb dX2_spoonsOfLesser_18 hl (by decide) rfl (fun ls hl => ?_)
    exact L20  FU 1 hf _ _ _ ⟨hP, hD⟩ hS (lv_sub hl [1, 2, 3, 4, 5, 0] rfl)
  · have hf := if_t hf hc7
    refine lv_iconst (v := 0) hx hb dX2_spoonsOfLesser_15 (by decide) ?_
    have he := Option.some.inj hf
    subst he
    exact hret _ _ _ _ dX2_spoonsOfLesser_16 rfl hP hD hS
abbrev rmX3_append : Room := { frames := 0, cells := 0, slots := 0, locals := 0 }
theorem hiX3_append_3 : ∀ w ∈ wsX30, w ∈ wsX3_append := fun w h => (goodIn_r (big := wsX3_append) wsX30 [5, 6, 7, 8] rfl (by decide +kernel) w h).1
set_option maxRecDepth 100000 in
set_option maxHeartbeats 4000000 in
theorem c_X3_append (l : Launch) (D : va_G) (cI cZ cR : ClassId) (a_told : Nat) (a_told_springs : Nat) (a_told_pans : Nat) (a_told_spoons : Nat) (told_size : Int32) (told_springs : Nat → Int32) (told_pans : Nat → Int32) (told_spoons : Nat → Int32) (v1 : Int32) (v2 : Int32) (v3 : Int32) (out : Int32 × Int32 × (Nat → Int32) × (Nat → Int32) × (Nat → Int32)) (hf : f_X3_append told_size told_springs told_pans told_spoons v1 v2 v3 = some out) : Ci l yX3_append wsX3_append rmX3_append D cI cZ cR [.ref a_told, .int v1, .int v2, .int v3] [(a_told, .inr (3, [.ref a_told_springs, .ref a_told_pans, .ref a_told_spoons, .int told_size])), (a_told_springs, .inl (cI, 5, .inl told_springs)), (a_told_pans, .inl (cI, 5, .inl told_pans)), (a_told_spoons, .inl (cI, 5, .inl told_spoons))] out.1 [(a_told, .inr (3, [.ref a_told_springs, .ref a_told_pans, .ref a_told_spoons, .int out.2.1])), (a_told_springs, .inl (cI, 5, .inl out.2.2.1)), (a_told_pans, .inl (cI, 5, .inl out.2.2.2.1)), (a_told_spoons, .inl (cI, 5, .inl out.2.2.2.2))] := by
  refine ent_i (cc := cX3_append) (maxL := 4) .boolean (by decide) rfl (Nat.le_of_ble_eq_true rfl) ?_
  intro p e s m below meth c A Q hx hb hml hown hts hE hA hP hD hS hret ls hl
  have hown : s.vm.findClass RX3 = some m.cls := hown
  have hl : lv_has ls 4 [(0, .ref a_told), (1, .int v1), (2, .int v2), (3, .int v3)] := hl
  have fL9 := hts (.fieldLink RX3 9 "RainShelves$Levels" "springs" "[I") (List.mem_of_getElem? (i := 2) rfl)
  have fL15 := hts (.fieldLink RX3 15 "RainShelves$Levels" "pans" "[I") (List.mem_of_getElem? (i := 3) rfl)
  have fL18 := hts (.fieldLink RX3 18 "RainShelves$Levels" "spoons" "[I") (List.mem_of_getElem? (i := 4) rfl)
  have fL21 := hts (.fieldLink RX3 21 "RainShelves$Levels" "size" "I") (List.mem_of_getElem? (i := 1) rfl)
  unfold f_X3_append at hf
  refine lv_aload_n hx hb dX3_append_0 rfl (lv_at hl 0 rfl) ?_
  refine va_get (D := D) (ci := 3) (v := .int told_size) (C := RX3) (T := TX3) (N := 4) hx hb hts hiX3_append_3 hown hE.1 hP 0 rfl rfl 3 (by decide) fL21 (fun _ h9 => h9) rfl dX3_append_1 ?_
  refine lv_iconst (v := 5) hx hb dX3_append_4 (by decide) ?_
  refine lv_icmp_lt (tgt := 10) hx hb dX3_append_5 (by decide) (fun hc1 => ?_) (fun hc1 => ?_)
  · have hf := if_t hf hc1
    refine lv_aload_n hx hb dX3_append_10 rfl (lv_at hl 0 rfl) ?_
    refine va_get (D := D) (ci := 3) (v := .ref a_told_springs) (C := RX3) (T := TX3) (N := 4) hx hb hts hiX3_append_3 hown hE.1 hP 0 rfl rfl 0 (by decide) fL9 (fun _ h9 => h9) rfl dX3_append_11 ?_
    refine lv_aload_n hx hb dX3_append_14 rfl (lv_at hl 0 rfl) ?_
    refine va_get (D := D) (ci := 3) (v := .int told_size) (C := RX3) (T := TX3) (N := 4) hx hb hts hiX3_append_3 hown hE.1 hP 0 rfl rfl 3 (by decide) fL21 (fun _ h9 => h9) rfl dX3_append_15 ?_
    refine lv_iload_n hx hb dX3_append_18 rfl (lv_at hl 1 rfl) ?_
    obtain ⟨hc2, hf⟩ := ck_some hf
    refine va_iast hx hb hE.1 hP hD hS 1 0 rfl rfl (ix_in hc2) dX3_append_19 (fun H locs hP hD hS => ?_)
    have hPD : PD D A [(a_told, .inr (3, [.ref a_told_springs, .ref a_told_pans, .ref a_told_spoons, .int told_size])), (a_told_springs, .inl (cI, 5, .inl (upd told_springs told_size.toNatClampNeg v1))), (a_told_pans, .inl (cI, 5, .inl told_pans)), (a_told_spoons, .inl (cI, 5, .inl told_spoons))] H := ⟨hP, hD⟩
    obtain ⟨hP, hD⟩ := hPD
    refine lv_aload_n hx hb dX3_append_20 rfl (lv_at hl 0 rfl) ?_
    refine va_get (D := D) (ci := 3) (v := .ref a_told_pans) (C := RX3) (T := TX3) (N := 4) hx hb hts hiX3_append_3 hown hE.1 hP 0 rfl rfl 1 (by decide) fL15 (fun _ h9 => h9) rfl dX3_append_21 ?_
    refine lv_aload_n hx hb dX3_append_24 rfl (lv_at hl 0 rfl) ?_
    refine va_get (D := D) (ci := 3) (v := .int told_size) (C := RX3) (T := TX3) (N := 4) hx hb hts hiX3_append_3 hown hE.1 hP 0 rfl rfl 3 (by decide) fL21 (fun _ h9 => h9) rfl dX3_append_25 ?_
    refine lv_iload_n hx hb dX3_append_28 rfl (lv_at hl 2 rfl) ?_
    obtain ⟨hc3, hf⟩ := ck_some hf
    refine va_iast hx hb hE.1 hP hD hS 2 0 rfl rfl (ix_in hc3) dX3_append_29 (fun H locs hP hD hS => ?_)
    have hPD : PD D A [(a_told, .inr (3, [.ref a_told_springs, .ref a_told_pans, .ref a_told_spoons, .int told_size])), (a_told_springs, .inl (cI, 5, .inl (upd told_springs told_size.toNatClampNeg v1))), (a_told_pans, .inl (cI, 5, .inl (upd told_pans told_size.toNatClampNeg v2))), (a_told_spoons, .inl (cI, 5, .inl told_spoons))] H := ⟨hP, hD⟩
    obtain ⟨hP, hD⟩ := hPD
    refine lv_aload_n hx hb dX3_append_30 rfl (lv_at hl 0 rfl) ?_
    refine va_get (D := D) (ci := 3) (v := .ref a_told_spoons) (C := RX3) (T := TX3) (N := 4) hx hb hts hiX3_append_3 hown hE.1 hP 0 rfl rfl 2 (by decide) fL18 (fun _ h9 => h9) rfl dX3_append_31 ?_
    refine lv_aload_n hx hb dX3_append_34 rfl (lv_at hl 0 rfl) ?_
    refine va_get (D := D) (ci := 3) (v := .int told_size) (C := RX3) (T := TX3) (N := 4) hx hb hts hiX3_append_3 hown hE.1 hP 0 rfl rfl 3 (by decide) fL21 (fun _ h9 => h9) rfl dX3_append_35 ?_
    refine lv_iload_n hx hb dX3_append_38 rfl (lv_at hl 3 rfl) ?_
    obtain ⟨hc4, hf⟩ := ck_some hf
    refine va_iast hx hb hE.1 hP hD hS 3 0 rfl rfl (ix_in hc4) dX3_append_39 (fun H locs hP hD hS => ?_)
    have hPD : PD D A [(a_told, .inr (3, [.ref a_told_springs, .ref a_told_pans, .ref a_told_spoons, .int told_size])), (a_told_springs, .inl (cI, 5, .inl (upd told_springs told_size.toNatClampNeg v1))), (a_told_pans, .inl (cI, 5, .inl (upd told_pans told_size.toNatClampNeg v2))), (a_told_spoons, .inl (cI, 5, .inl (upd told_spoons told_size.toNatClampNeg v3)))] H := ⟨hP, hD⟩
    obtain ⟨hP, hD⟩ := hPD
    refine lv_aload_n hx hb dX3_append_40 rfl (lv_at hl 0 rfl) ?_
    refine lv_dup hx hb dX3_append_41 rfl ?_
    refine va_get (D := D) (ci := 3) (v := .int told_size) (C := RX3) (T := TX3) (N := 4) hx hb hts hiX3_append_3 hown hE.1 hP 0 rfl rfl 3 (by decide) fL21 (fun _ h9 => h9) rfl dX3_append_42 ?_
    refine lv_iconst (v := 1) hx hb dX3_append_45 (by decide) ?_
    refine lv_iadd hx hb dX3_append_46 ?_
    refine va_put (D := D) (ci := 3) (v := .int (told_size + 1)) (ty := .int) (C := RX3) (T := TX3) (N := 4) hx hb hts hiX3_append_3 tyX3 tyX3_ok nmX3 hown hE.1 hP hD hS 0 rfl rfl 3 (by decide) fL21 (fun _ h9 => h9) rfl (tyX3_ok 3 (by decide)) rfl rfl (Nat.le_of_ble_eq_true rfl) dX3_append_47 (fun H locs hP hD hS => ?_)
    have hPD : PD D A [(a_told, .inr (3, [.ref a_told_springs, .ref a_told_pans, .ref a_told_spoons, .int (told_size + 1)])), (a_told_springs, .inl (cI, 5, .inl (upd told_springs told_size.toNatClampNeg v1))), (a_told_pans, .inl (cI, 5, .inl (upd told_pans told_size.toNatClampNeg v2))), (a_told_spoons, .inl (cI, 5, .inl (upd told_spoons told_size.toNatClampNeg v3)))] H := ⟨hP, hD⟩
    obtain ⟨hP, hD⟩ := hPD
    refine lv_iconst (v := 1) hx hb dX3_append_50 (by decide) ?_
    have he := Option.some.inj hf
    subst he
    exact hret _ _ _ _ dX3_append_51 bn1 hP hD hS
  · have hf := if_f hf hc1
    refine lv_iconst (v := 0) hx hb dX3_append_8 (by decide) ?_
    have he := Option.some.inj hf
    subst he
    exact hret _ _ _ _ dX3_append_9 bn0 hP hD hS
abbrev rmX4_at : Room := { frames := 0, cells := 0, slots := 0, locals := 0 }
set_option maxRecDepth 100000 in
set_option maxHeartbeats 4000000 in
theorem c_X4_at (l : Launch) (D : va_G) (cI cZ cR : ClassId) (v0 : Int32) (v1 : Int32) (out : Int32) (hf : f_X4_at v0 v1 = some out) : Ci l yX4_at wsX4_at rmX4_at D cI cZ cR [.int v0, .int v1] [] out [] := by
  refine ent_i (cc := cX4_at) (maxL := 2) .int (by decide) rfl (Nat.le_of_ble_eq_true rfl) ?_
  intro p e s m below meth c A Q hx hb hml hown hts hE hA hP hD hS hret ls hl
  have hown : s.vm.findClass RX4 = some m.cls := hown
  have hl : lv_has ls 2 [(0, .int v0), (1, .int v1)] := hl
  unfold f_X4_at at hf
  refine lv_iload_n hx hb dX4_at_0 rfl (lv_at hl 0 rfl) ?_
  refine lv_bipush (v := 7) hx hb dX4_at_1 (by decide) ?_
  refine lv_imul hx hb dX4_at_3 ?_
  refine lv_iload_n hx hb dX4_at_4 rfl (lv_at hl 1 rfl) ?_
  refine lv_iadd hx hb dX4_at_5 ?_
  have he := Option.some.inj hf
  subst he
  exact hret _ _ _ _ dX4_at_6 rfl hP hD hS
abbrev rmX4_fill : Room := { frames := 1, cells := 0, slots := 0, locals := 21 }
theorem hiX4_fill_2 : ∀ w ∈ wsX20, w ∈ wsX4_fill := fun w h => (goodIn_r (big := wsX4_fill) wsX20 [13, 14, 15, 16, 17, 18, 19, 20] rfl (by decide +kernel) w h).1
theorem hiX4_fill_4 : ∀ w ∈ wsX40, w ∈ wsX4_fill := fun w h => (goodIn_r (big := wsX4_fill) wsX40 [9, 10, 11, 12] rfl (by decide +kernel) w h).1
theorem cw_X4_fill_X4_at_31 {s : State} {args : Array Value} (hts : ∀ x ∈ wsX4_fill, x.before args s = true) : CallB rmX4_fill s args RX4 31 yX4_at cX4_at 2 (some .int) wsX4_at rmX4_at 0 0 2 ∧ (Cond.static yX4_at).before args s = true := va_cwS 2 hts gX4_fill_X4_at rfl rfl rfl (by decide +kernel) ⟨Nat.le_of_ble_eq_true rfl, Nat.le_of_ble_eq_true rfl⟩
set_option maxRecDepth 100000 in
set_option maxHeartbeats 4000000 in
theorem c_X4_fill (l : Launch) (D : va_G) (cI cZ cR : ClassId) (a_rain : Nat) (a_rain_spoons : Nat) (a_house : Nat) (a_house_spoons : Nat) (a_house_years : Nat) (a_house_shrinks : Nat) (a_house_sorts : Nat) (a_house_byAge : Nat) (rain_springs : Int32) (rain_lost : Int32) (rain_spoons : Nat → Int32) (house_pans : Int32) (house_least : Int32) (house_shelf : Int32) (house_spoons : Nat → Int32) (out : Int32 × Int32 × (Nat → Int32)) (hf : f_X4_fill rain_spoons house_pans house_spoons = some out) : Cv l yX4_fill wsX4_fill rmX4_fill D cI cZ cR [.ref a_rain] [(a_rain, .inr (4, [.ref a_house, .ref a_rain_spoons, .int rain_springs, .int rain_lost])), (a_rain_spoons, .inl (cI, 49, .inl rain_spoons)), (a_house, .inr (2, [.int house_pans, .int house_least, .int house_shelf, .ref a_house_years, .ref a_house_spoons, .ref a_house_shrinks, .ref a_house_sorts, .ref a_house_byAge])), (a_house_spoons, .inl (cI, 7, .inl house_spoons))] [(a_rain, .inr (4, [.ref a_house, .ref a_rain_spoons, .int out.1, .int out.2.1])), (a_rain_spoons, .inl (cI, 49, .inl out.2.2)), (a_house, .inr (2, [.int house_pans, .int house_least, .int house_shelf, .ref a_house_years, .ref a_house_spoons, .ref a_house_shrinks, .ref a_house_sorts, .ref a_house_byAge])), (a_house_spoons, .inl (cI, 7, .inl house_spoons))] := by
  refine ent_v (cc := cX4_fill) (maxL := 2) (by decide) rfl (Nat.le_of_ble_eq_true rfl) ?_
  intro p e s m below meth c A Q hx hb hml hown hts hE hA hP hD hS hret ls hl
  have hown : s.vm.findClass RX4 = some m.cls := hown
  have hl : lv_has ls 2 [(0, .ref a_rain)] := hl
  have fL9 := hts (.fieldLink RX4 9 "RainShelves$Rain" "spoons" "[I") (List.mem_of_getElem? (i := 3) rfl)
  have fL15 := hts (.fieldLink RX4 15 "RainShelves$Rain" "house" "LRainShelves$House;") (List.mem_of_getElem? (i := 4) rfl)
  have fL19 := hts (.fieldLink RX4 19 "RainShelves$Rain" "springs" "I") (List.mem_of_getElem? (i := 1) rfl)
  have fL23 := hts (.fieldLink RX4 23 "RainShelves$Rain" "lost" "I") (List.mem_of_getElem? (i := 2) rfl)
  have fL26 : (Cond.fieldLinkNest RX4 26 "RainShelves$House" "pans" "I" "RainShelves").before ([.ref a_rain] : List Value).toArray s = true := hE.nf 1 rfl
  have fL35 : (Cond.fieldLinkNest RX4 35 "RainShelves$House" "spoons" "[I" "RainShelves").before ([.ref a_rain] : List Value).toArray s = true := hE.nf 12 rfl
  unfold f_X4_fill at hf
  have L33 : ∀ (rain_springs_33 : Int32) (rain_lost_33 : Int32) (n33 : Nat) (v1_33 : Int32) (rain_spoons_33 : Nat → Int32), f_X4_fill_L33 house_pans house_spoons rain_springs_33 rain_lost_33 n33 v1_33 rain_spoons_33 = some out → ∀ (H : Heap) (locs : List Loc) (ls : Array Slot), PD D A [(a_rain, .inr (4, [.ref a_house, .ref a_rain_spoons, .int rain_springs_33, .int rain_lost_33])), (a_rain_spoons, .inl (cI, 49, .inl rain_spoons_33)), (a_house, .inr (2, [.int house_pans, .int house_least, .int house_shelf, .ref a_house_years, .ref a_house_spoons, .ref a_house_shrinks, .ref a_house_sorts, .ref a_house_byAge])), (a_house_spoons, .inl (cI, 7, .inl house_spoons))] H → va_S A s.heap H locs → lv_has ls 2 [(0, .ref a_rain), (1, .int v1_33)] → W p l e rmX4_fill s m ([.ref a_rain] : List Value).toArray below meth c H locs 0 0 Q (F0 m 33 ls []) := by
    intro rain_springs_33 rain_lost_33 n33
    induction n33 with
    | zero => intro v1_33 rain_spoons_33 hf; cases hf
    | succ n33 ih33 =>
      intro v1_33 rain_spoons_33 hf H locs ls hPD hS hl
      obtain ⟨hP, hD⟩ := hPD
      have hf : f_X4_fill_B33 house_pans house_spoons rain_springs_33 rain_lost_33 (f_X4_fill_L33 house_pans house_spoons rain_springs_33 rain_lost_33 n33) v1_33 rain_spoons_33 = some out := hf
      unfold f_X4_fill_B33 at hf
      refine lv_iload_n hx hb dX4_fill_33 rfl (lv_at hl 1 rfl) ?_
      refine lv_aload_n hx hb dX4_fill_34 rfl (lv_at hl 0 rfl) ?_
      refine va_get (D := D) (ci := 4) (v := .ref a_house) (C := RX4) (T := TX4) (N := 4) hx hb hts hiX4_fill_4 hown hE.1 hP 0 rfl rfl 0 (by decide) fL15 (fun _ h9 => h9) rfl dX4_fill_35 ?_
      refine va_getN (D := D) (ci := 2) (v := .int house_pans) (C := RX2) (T := TX2) (N := 8) hx hb hts hiX4_fill_2 hown hE.1 hP 2 rfl rfl 0 (by decide) fL26 (fun _ h9 => h9) rfl dX4_fill_38 ?_
      refine lv_icmp_ge (tgt := 69) hx hb dX4_fill_41 (by decide) (fun hc1 => ?_) (fun hc1 => ?_)
      · have hf := if_t hf hc1
        have he := Option.some.inj hf
        subst he
        exact hret _ _ _ _ dX4_fill_69 hP hD hS
      · have hf := if_f hf hc1
        refine lv_aload_n hx hb dX4_fill_44 rfl (lv_at hl 0 rfl) ?_
        refine va_get (D := D) (ci := 4) (v := .ref a_rain_spoons) (C := RX4) (T := TX4) (N := 4) hx hb hts hiX4_fill_4 hown hE.1 hP 0 rfl rfl 1 (by decide) fL9 (fun _ h9 => h9) rfl dX4_fill_45 ?_
        refine lv_iload_n hx hb dX4_fill_48 rfl (lv_at hl 1 rfl) ?_
        refine lv_iload_n hx hb dX4_fill_49 rfl (lv_at hl 1 rfl) ?_
        obtain ⟨u1, hu1, hf⟩ := bd_some hf
        refine cl_iS (As := [.int v1_33, .int v1_33]) (rest := [.ref a_rain_spoons]) ⟨hx, hb, hml, hown, hts⟩ (c_X4_at l D cI cZ cR   v1_33 v1_33 u1 hu1) (cw_X4_fill_X4_at_31 hts) hE hP hD hS hA rfl hl.1 rfl (Nat.le_of_ble_eq_true rfl) dX4_fill_50 ⟨Nat.zero_le _, Nat.zero_le _⟩ (fun H locs hP hS => ?_)
        refine lv_aload_n hx hb dX4_fill_53 rfl (lv_at hl 0 rfl) ?_
        refine va_get (D := D) (ci := 4) (v := .ref a_house) (C := RX4) (T := TX4) (N := 4) hx hb hts hiX4_fill_4 hown hE.1 hP 0 rfl rfl 0 (by decide) fL15 (fun _ h9 => h9) rfl dX4_fill_54 ?_
        refine va_getN (D := D) (ci := 2) (v := .ref a_house_spoons) (C := RX2) (T := TX2) (N := 8) hx hb hts hiX4_fill_2 hown hE.1 hP 2 rfl rfl 4 (by decide) fL35 (fun _ h9 => h9) rfl dX4_fill_57 ?_
        refine lv_iload_n hx hb dX4_fill_60 rfl (lv_at hl 1 rfl) ?_
        obtain ⟨hc2, hf⟩ := ck_some hf
        refine va_iald hx hb hE.1 hP 3 0 rfl rfl (ix_in hc2) dX4_fill_61 ?_
        obtain ⟨hc3, hf⟩ := ck_some hf
        refine va_iast hx hb hE.1 hP hD hS 1 0 rfl rfl (ix_in hc3) dX4_fill_62 (fun H locs hP hD hS => ?_)
        have hPD : PD D A [(a_rain, .inr (4, [.ref a_house, .ref a_rain_spoons, .int rain_springs_33, .int rain_lost_33])), (a_rain_spoons, .inl (cI, 49, .inl (upd rain_spoons_33 u1.toNatClampNeg (house_spoons v1_33.toNatClampNeg)))), (a_house, .inr (2, [.int house_pans, .int house_least, .int house_shelf, .ref a_house_years, .ref a_house_spoons, .ref a_house_shrinks, .ref a_house_sorts, .ref a_house_byAge])), (a_house_spoons, .inl (cI, 7, .inl house_spoons))] H := ⟨hP, hD⟩
        obtain ⟨hP, hD⟩ := hPD
        refine lv_iinc (v := (v1_33 + 1)) (lv' := [(1, .int (v1_33 + 1)), (0, .ref a_rain)]) hx hb dX4_fill_63 hl (k := 1) rfl (ii_p1 _) (by decide) rfl (fun ls hl => ?_)
        refine lv_goto (tgt := 33) hx hb dX4_fill_66 (by decide) ?_
        exact ih33 (v1_33 + 1) (upd rain_spoons_33 u1.toNatClampNeg (house_spoons v1_33.toNatClampNeg)) hf _ _ _ ⟨hP, hD⟩ hS (lv_sub hl [1, 0] rfl)
  have L12 : ∀ (rain_springs_12 : Int32) (rain_lost_12 : Int32) (n12 : Nat) (v1_12 : Int32) (rain_spoons_12 : Nat → Int32), f_X4_fill_L12 house_pans house_spoons rain_springs_12 rain_lost_12 n12 v1_12 rain_spoons_12 = some out → ∀ (H : Heap) (locs : List Loc) (ls : Array Slot), PD D A [(a_rain, .inr (4, [.ref a_house, .ref a_rain_spoons, .int rain_springs_12, .int rain_lost_12])), (a_rain_spoons, .inl (cI, 49, .inl rain_spoons_12)), (a_house, .inr (2, [.int house_pans, .int house_least, .int house_shelf, .ref a_house_years, .ref a_house_spoons, .ref a_house_shrinks, .ref a_house_sorts, .ref a_house_byAge])), (a_house_spoons, .inl (cI, 7, .inl house_spoons))] H → va_S A s.heap H locs → lv_has ls 2 [(0, .ref a_rain), (1, .int v1_12)] → W p l e rmX4_fill s m ([.ref a_rain] : List Value).toArray below meth c H locs 0 0 Q (F0 m 12 ls []) := by
    intro rain_springs_12 rain_lost_12 n12
    induction n12 with
    | zero => intro v1_12 rain_spoons_12 hf; cases hf
    | succ n12 ih12 =>
      intro v1_12 rain_spoons_12 hf H locs ls hPD hS hl
      obtain ⟨hP, hD⟩ := hPD
      have hf : f_X4_fill_B12 house_pans house_spoons rain_springs_12 rain_lost_12 (f_X4_fill_L12 house_pans house_spoons rain_springs_12 rain_lost_12 n12) v1_12 rain_spoons_12 = some out := hf
      unfold f_X4_fill_B12 at hf
      refine lv_iload_n hx hb dX4_fill_12 rfl (lv_at hl 1 rfl) ?_
      refine lv_bipush (v := 49) hx hb dX4_fill_13 (by decide) ?_
      refine lv_icmp_ge (tgt := 31) hx hb dX4_fill_15 (by decide) (fun hc4 => ?_) (fun hc4 => ?_)
      · have hf := if_t hf hc4
        refine lv_iconst (v := 0) hx hb dX4_fill_31 (by decide) ?_
        refine lv_istore_n (lv' := [(1, .int 0), (0, .ref a_rain)]) hx hb dX4_fill_32 rfl hl (by decide) rfl (fun ls hl => ?_)
        exact L33 rain_springs_12 rain_lost_12 FU 0 rain_spoons_12 hf _ _ _ ⟨hP, hD⟩ hS (lv_sub hl [1, 0] rfl)
      · have hf := if_f hf hc4
        refine lv_aload_n hx hb dX4_fill_18 rfl (lv_at hl 0 rfl) ?_
        refine va_get (D := D) (ci := 4) (v := .ref a_rain_spoons) (C := RX4) (T := TX4) (N := 4) hx hb hts hiX4_fill_4 hown hE.1 hP 0 rfl rfl 1 (by decide) fL9 (fun _ h9 => h9) rfl dX4_fill_19 ?_
        refine lv_iload_n hx hb dX4_fill_22 rfl (lv_at hl 1 rfl) ?_
        refine lv_iconst (v := 0) hx hb dX4_fill_23 (by decide) ?_
        obtain ⟨hc5, hf⟩ := ck_some hf
        refine va_iast hx hb hE.1 hP hD hS 1 0 rfl rfl (ix_in hc5) dX4_fill_24 (fun H locs hP hD hS => ?_)
        have hPD : PD D A [(a_rain, .inr (4, [.ref a_house, .ref a_rain_spoons, .int rain_springs_12, .int rain_lost_12])), (a_rain_spoons, .inl (cI, 49, .inl (upd rain_spoons_12 v1_12.toNatClampNeg 0))), (a_house, .inr (2, [.int house_pans, .int house_least, .int house_shelf, .ref a_house_years, .ref a_house_spoons, .ref a_house_shrinks, .ref a_house_sorts, .ref a_house_byAge])), (a_house_spoons, .inl (cI, 7, .inl house_spoons))] H := ⟨hP, hD⟩
        obtain ⟨hP, hD⟩ := hPD
        refine lv_iinc (v := (v1_12 + 1)) (lv' := [(1, .int (v1_12 + 1)), (0, .ref a_rain)]) hx hb dX4_fill_25 hl (k := 1) rfl (ii_p1 _) (by decide) rfl (fun ls hl => ?_)
        refine lv_goto (tgt := 12) hx hb dX4_fill_28 (by decide) ?_
        exact ih12 (v1_12 + 1) (upd rain_spoons_12 v1_12.toNatClampNeg 0) hf _ _ _ ⟨hP, hD⟩ hS (lv_sub hl [1, 0] rfl)
  refine lv_aload_n hx hb dX4_fill_0 rfl (lv_at hl 0 rfl) ?_
  refine lv_iconst (v := 0) hx hb dX4_fill_1 (by decide) ?_
  refine va_put (D := D) (ci := 4) (v := .int 0) (ty := .int) (C := RX4) (T := TX4) (N := 4) hx hb hts hiX4_fill_4 tyX4 tyX4_ok nmX4 hown hE.1 hP hD hS 0 rfl rfl 2 (by decide) fL19 (fun _ h9 => h9) rfl (tyX4_ok 2 (by decide)) rfl rfl (Nat.le_of_ble_eq_true rfl) dX4_fill_2 (fun H locs hP hD hS => ?_)
  have hPD : PD D A [(a_rain, .inr (4, [.ref a_house, .ref a_rain_spoons, .int 0, .int rain_lost])), (a_rain_spoons, .inl (cI, 49, .inl rain_spoons)), (a_house, .inr (2, [.int house_pans, .int house_least, .int house_shelf, .ref a_house_years, .ref a_house_spoons, .ref a_house_shrinks, .ref a_house_sorts, .ref a_house_byAge])), (a_house_spoons, .inl (cI, 7, .inl house_spoons))] H := ⟨hP, hD⟩
  obtain ⟨hP, hD⟩ := hPD
  refine lv_aload_n hx hb dX4_fill_5 rfl (lv_at hl 0 rfl) ?_
  refine lv_iconst (v := 0) hx hb dX4_fill_6 (by decide) ?_
  refine va_put (D := D) (ci := 4) (v := .int 0) (ty := .int) (C := RX4) (T := TX4) (N := 4) hx hb hts hiX4_fill_4 tyX4 tyX4_ok nmX4 hown hE.1 hP hD hS 0 rfl rfl 3 (by decide) fL23 (fun _ h9 => h9) rfl (tyX4_ok 3 (by decide)) rfl rfl (Nat.le_of_ble_eq_true rfl) dX4_fill_7 (fun H locs hP hD hS => ?_)
  have hPD : PD D A [(a_rain, .inr (4, [.ref a_house, .ref a_rain_spoons, .int 0, .int 0])), (a_rain_spoons, .inl (cI, 49, .inl rain_spoons)), (a_house, .inr (2, [.int house_pans, .int house_least, .int house_shelf, .ref a_house_years, .ref a_house_spoons, .ref a_house_shrinks, .ref a_house_sorts, .ref a_house_byAge])), (a_house_spoons, .inl (cI, 7, .inl house_spoons))] H := ⟨hP, hD⟩
  obtain ⟨hP, hD⟩ := hPD
  refine lv_iconst (v := 0) hx hb dX4_fill_10 (by decide) ?_
  refine lv_istore_n (lv' := [(1, .int 0), (0, .ref a_rain)]) hx hb dX4_fill_11 rfl hl (by decide) rfl (fun ls hl => ?_)
  exact L12 0 0 FU 0 rain_spoons hf _ _ _ ⟨hP, hD⟩ hS (lv_sub hl [1, 0] rfl)
abbrev rmX4_amount : Room := { frames := 1, cells := 0, slots := 0, locals := 21 }
theorem hiX4_amount_4 : ∀ w ∈ wsX40, w ∈ wsX4_amount := fun w h => (goodIn_r (big := wsX4_amount) wsX40 [6, 7, 8, 9] rfl (by decide +kernel) w h).1
theorem cw_X4_amount_X4_at_31 {s : State} {args : Array Value} (hts : ∀ x ∈ wsX4_amount, x.before args s = true) : CallB rmX4_amount s args RX4 31 yX4_at cX4_at 2 (some .int) wsX4_at rmX4_at 0 0 2 ∧ (Cond.static yX4_at).before args s = true := va_cwS 2 hts gX4_amount_X4_at rfl rfl rfl (by decide +kernel) ⟨Nat.le_of_ble_eq_true rfl, Nat.le_of_ble_eq_true rfl⟩
set_option maxRecDepth 100000 in
set_option maxHeartbeats 4000000 in
theorem c_X4_amount (l : Launch) (D : va_G) (cI cZ cR : ClassId) (a_rain : Nat) (a_rain_spoons : Nat) (a_house : Nat) (rain_springs : Int32) (rain_lost : Int32) (rain_spoons : Nat → Int32) (v1 : Int32) (v2 : Int32) (out : Int32) (hf : f_X4_amount rain_spoons v1 v2 = some out) : Ci l yX4_amount wsX4_amount rmX4_amount D cI cZ cR [.ref a_rain, .int v1, .int v2] [(a_rain, .inr (4, [.ref a_house, .ref a_rain_spoons, .int rain_springs, .int rain_lost])), (a_rain_spoons, .inl (cI, 49, .inl rain_spoons))] out [(a_rain, .inr (4, [.ref a_house, .ref a_rain_spoons, .int rain_springs, .int rain_lost])), (a_rain_spoons, .inl (cI, 49, .inl rain_spoons))] := by
  refine ent_i (cc := cX4_amount) (maxL := 3) .int (by decide) rfl (Nat.le_of_ble_eq_true rfl) ?_
  intro p e s m below meth c A Q hx hb hml hown hts hE hA hP hD hS hret ls hl
  have hown : s.vm.findClass RX4 = some m.cls := hown
  have hl : lv_has ls 3 [(0, .ref a_rain), (1, .int v1), (2, .int v2)] := hl
  have fL9 := hts (.fieldLink RX4 9 "RainShelves$Rain" "spoons" "[I") (List.mem_of_getElem? (i := 1) rfl)
  unfold f_X4_amount at hf
  refine lv_aload_n hx hb dX4_amount_0 rfl (lv_at hl 0 rfl) ?_
  refine va_get (D := D) (ci := 4) (v := .ref a_rain_spoons) (C := RX4) (T := TX4) (N := 4) hx hb hts hiX4_amount_4 hown hE.1 hP 0 rfl rfl 1 (by decide) fL9 (fun _ h9 => h9) rfl dX4_amount_1 ?_
  refine lv_iload_n hx hb dX4_amount_4 rfl (lv_at hl 1 rfl) ?_
  refine lv_iload_n hx hb dX4_amount_5 rfl (lv_at hl 2 rfl) ?_
  obtain ⟨u1, hu1, hf⟩ := bd_some hf
  refine cl_iS (As := [.int v1, .int v2]) (rest := [.ref a_rain_spoons]) ⟨hx, hb, hml, hown, hts⟩ (c_X4_at l D cI cZ cR   v1 v2 u1 hu1) (cw_X4_amount_X4_at_31 hts) hE hP hD hS hA rfl hl.1 rfl (Nat.le_of_ble_eq_true rfl) dX4_amount_6 ⟨Nat.zero_le _, Nat.zero_le _⟩ (fun H locs hP hS => ?_)
  obtain ⟨hc1, hf⟩ := ck_some hf
  refine va_iald hx hb hE.1 hP 1 0 rfl rfl (ix_in hc1) dX4_amount_9 ?_
  have he := Option.some.inj hf
  subst he
  exact hret _ _ _ _ dX4_amount_10 rfl hP hD hS
abbrev rmX4_inPan : Room := { frames := 2, cells := 0, slots := 0, locals := 43 }
theorem hiX4_inPan_2 : ∀ w ∈ wsX20, w ∈ wsX4_inPan := fun w h => (goodIn_r (big := wsX4_inPan) wsX20 [15, 16, 17, 18, 19, 20, 21, 22] rfl (by decide +kernel) w h).1
theorem hiX4_inPan_4 : ∀ w ∈ wsX40, w ∈ wsX4_inPan := fun w h => (goodIn_r (big := wsX4_inPan) wsX40 [11, 12, 13, 14] rfl (by decide +kernel) w h).1
theorem cw_X4_inPan_X4_amount_36 {s : State} {args : Array Value} (hts : ∀ x ∈ wsX4_inPan, x.before args s = true) : CallW rmX4_inPan s args RX4 RX4 36 yX4_amount cX4_amount 3 (some .int) wsX4_amount rmX4_amount 0 0 2 := cwV 2 hts gX4_inPan_X4_amount rfl rfl rfl (by decide +kernel) ⟨Nat.le_of_ble_eq_true rfl, Nat.le_of_ble_eq_true rfl⟩
set_option maxRecDepth 100000 in
set_option maxHeartbeats 4000000 in
theorem c_X4_inPan (l : Launch) (D : va_G) (cI cZ cR : ClassId) (a_rain : Nat) (a_house : Nat) (a_rain_spoons : Nat) (a_house_years : Nat) (a_house_spoons : Nat) (a_house_shrinks : Nat) (a_house_sorts : Nat) (a_house_byAge : Nat) (rain_springs : Int32) (rain_lost : Int32) (house_pans : Int32) (house_least : Int32) (house_shelf : Int32) (rain_spoons : Nat → Int32) (v1 : Int32) (out : Int32) (hf : f_X4_inPan house_pans rain_spoons v1 = some out) : Ci l yX4_inPan wsX4_inPan rmX4_inPan D cI cZ cR [.ref a_rain, .int v1] [(a_rain, .inr (4, [.ref a_house, .ref a_rain_spoons, .int rain_springs, .int rain_lost])), (a_house, .inr (2, [.int house_pans, .int house_least, .int house_shelf, .ref a_house_years, .ref a_house_spoons, .ref a_house_shrinks, .ref a_house_sorts, .ref a_house_byAge])), (a_rain_spoons, .inl (cI, 49, .inl rain_spoons))] out [(a_rain, .inr (4, [.ref a_house, .ref a_rain_spoons, .int rain_springs, .int rain_lost])), (a_house, .inr (2, [.int house_pans, .int house_least, .int house_shelf, .ref a_house_years, .ref a_house_spoons, .ref a_house_shrinks, .ref a_house_sorts, .ref a_house_byAge])), (a_rain_spoons, .inl (cI, 49, .inl rain_spoons))] := by
  refine ent_i (cc := cX4_inPan) (maxL := 4) .int (by decide) rfl (Nat.le_of_ble_eq_true rfl) ?_
  intro p e s m below meth c A Q hx hb hml hown hts hE hA hP hD hS hret ls hl
  have hown : s.vm.findClass RX4 = some m.cls := hown
  have hl : lv_has ls 4 [(0, .ref a_rain), (1, .int v1)] := hl
  have fL15 := hts (.fieldLink RX4 15 "RainShelves$Rain" "house" "LRainShelves$House;") (List.mem_of_getElem? (i := 1) rfl)
  have fL26 : (Cond.fieldLinkNest RX4 26 "RainShelves$House" "pans" "I" "RainShelves").before ([.ref a_rain, .int v1] : List Value).toArray s = true := hE.nf 1 rfl
  unfold f_X4_inPan at hf
  have L4 : ∀ (n4 : Nat) (v2_4 : Int32) (v3_4 : Int32), f_X4_inPan_L4 house_pans rain_spoons v1 n4 v2_4 v3_4 = some out → ∀ (H : Heap) (locs : List Loc) (ls : Array Slot), PD D A [(a_rain, .inr (4, [.ref a_house, .ref a_rain_spoons, .int rain_springs, .int rain_lost])), (a_house, .inr (2, [.int house_pans, .int house_least, .int house_shelf, .ref a_house_years, .ref a_house_spoons, .ref a_house_shrinks, .ref a_house_sorts, .ref a_house_byAge])), (a_rain_spoons, .inl (cI, 49, .inl rain_spoons))] H → va_S A s.heap H locs → lv_has ls 4 [(0, .ref a_rain), (1, .int v1), (2, .int v2_4), (3, .int v3_4)] → W p l e rmX4_inPan s m ([.ref a_rain, .int v1] : List Value).toArray below meth c H locs 0 0 Q (F0 m 4 ls []) := by
    intro  n4
    induction n4 with
    | zero => intro v2_4 v3_4 hf; cases hf
    | succ n4 ih4 =>
      intro v2_4 v3_4 hf H locs ls hPD hS hl
      obtain ⟨hP, hD⟩ := hPD
      have hf : f_X4_inPan_B4 house_pans rain_spoons v1 (f_X4_inPan_L4 house_pans rain_spoons v1 n4) v2_4 v3_4 = some out := hf
      unfold f_X4_inPan_B4 at hf
      refine lv_iload_n hx hb dX4_inPan_4 rfl (lv_at hl 3 rfl) ?_
      refine lv_aload_n hx hb dX4_inPan_5 rfl (lv_at hl 0 rfl) ?_
      refine va_get (D := D) (ci := 4) (v := .ref a_house) (C := RX4) (T := TX4) (N := 4) hx hb hts hiX4_inPan_4 hown hE.1 hP 0 rfl rfl 0 (by decide) fL15 (fun _ h9 => h9) rfl dX4_inPan_6 ?_
      refine va_getN (D := D) (ci := 2) (v := .int house_pans) (C := RX2) (T := TX2) (N := 8) hx hb hts hiX4_inPan_2 hown hE.1 hP 1 rfl rfl 0 (by decide) fL26 (fun _ h9 => h9) rfl dX4_inPan_9 ?_
      refine lv_icmp_ge (tgt := 30) hx hb dX4_inPan_12 (by decide) (fun hc1 => ?_) (fun hc1 => ?_)
      · have hf := if_t hf hc1
        refine lv_iload_n hx hb dX4_inPan_30 rfl (lv_at hl 2 rfl) ?_
        have he := Option.some.inj hf
        subst he
        exact hret _ _ _ _ dX4_inPan_31 rfl hP hD hS
      · have hf := if_f hf hc1
        refine lv_iload_n hx hb dX4_inPan_15 rfl (lv_at hl 2 rfl) ?_
        refine lv_aload_n hx hb dX4_inPan_16 rfl (lv_at hl 0 rfl) ?_
        refine lv_iload_n hx hb dX4_inPan_17 rfl (lv_at hl 1 rfl) ?_
        refine lv_iload_n hx hb dX4_inPan_18 rfl (lv_at hl 3 rfl) ?_
        obtain ⟨u1, hu1, hf⟩ := bd_some hf
        refine cl_iV (As := [.int v1, .int v3_4]) (rest := [.int v2_4]) ⟨hx, hb, hml, hown, hts⟩ (c_X4_amount l D cI cZ cR a_rain a_rain_spoons a_house rain_springs rain_lost rain_spoons v1 v3_4 u1 hu1) (cw_X4_inPan_X4_amount_36 hts) hE hP hD hS hA [0, 2] rfl rfl [a_rain, a_rain_spoons] rfl rfl 0 4 rfl rfl rfl hl.1 rfl (Nat.le_of_ble_eq_true rfl) dX4_inPan_19 ⟨Nat.zero_le _, Nat.zero_le _⟩ (fun H locs hP hD hS => ?_)
        have hPD : PD D A [(a_rain, .inr (4, [.ref a_house, .ref a_rain_spoons, .int rain_springs, .int rain_lost])), (a_house, .inr (2, [.int house_pans, .int house_least, .int house_shelf, .ref a_house_years, .ref a_house_spoons, .ref a_house_shrinks, .ref a_house_sorts, .ref a_house_byAge])), (a_rain_spoons, .inl (cI, 49, .inl rain_spoons))] H := ⟨hP, hD⟩
        obtain ⟨hP, hD⟩ := hPD
        refine lv_iadd hx hb dX4_inPan_22 ?_
        refine lv_istore_n (lv' := [(2, .int (v2_4 + u1)), (0, .ref a_rain), (1, .int v1), (3, .int v3_4)]) hx hb dX4_inPan_23 rfl hl (by decide) rfl (fun ls hl => ?_)
        refine lv_iinc (v := (v3_4 + 1)) (lv' := [(3, .int (v3_4 + 1)), (2, .int (v2_4 + u1)), (0, .ref a_rain), (1, .int v1)]) hx hb dX4_inPan_24 hl (k := 3) rfl (ii_p1 _) (by decide) rfl (fun ls hl => ?_)
        refine lv_goto (tgt := 4) hx hb dX4_inPan_27 (by decide) ?_
        exact ih4 (v2_4 + u1) (v3_4 + 1) hf _ _ _ ⟨hP, hD⟩ hS (lv_sub hl [2, 3, 1, 0] rfl)
  refine lv_iconst (v := 0) hx hb dX4_inPan_0 (by decide) ?_
  refine lv_istore_n (lv' := [(2, .int 0), (0, .ref a_rain), (1, .int v1)]) hx hb dX4_inPan_1 rfl hl (by decide) rfl (fun ls hl => ?_)
  refine lv_iconst (v := 0) hx hb dX4_inPan_2 (by decide) ?_
  refine lv_istore_n (lv' := [(3, .int 0), (2, .int 0), (0, .ref a_rain), (1, .int v1)]) hx hb dX4_inPan_3 rfl hl (by decide) rfl (fun ls hl => ?_)
  exact L4  FU 0 0 hf _ _ _ ⟨hP, hD⟩ hS (lv_sub hl [2, 3, 1, 0] rfl)
abbrev rmX4_inAll : Room := { frames := 3, cells := 0, slots := 0, locals := 66 }
theorem hiX4_inAll_2 : ∀ w ∈ wsX20, w ∈ wsX4_inAll := fun w h => (goodIn_r (big := wsX4_inAll) wsX20 [19, 20, 21, 22, 23, 24, 25, 26] rfl (by decide +kernel) w h).1
theorem hiX4_inAll_4 : ∀ w ∈ wsX40, w ∈ wsX4_inAll := fun w h => (goodIn_r (big := wsX4_inAll) wsX40 [15, 16, 17, 18] rfl (by decide +kernel) w h).1
theorem cw_X4_inAll_X4_inPan_39 {s : State} {args : Array Value} (hts : ∀ x ∈ wsX4_inAll, x.before args s = true) : CallW rmX4_inAll s args RX4 RX4 39 yX4_inPan cX4_inPan 4 (some .int) wsX4_inPan rmX4_inPan 0 0 1 := cwV 1 hts gX4_inAll_X4_inPan rfl rfl rfl (by decide +kernel) ⟨Nat.le_of_ble_eq_true rfl, Nat.le_of_ble_eq_true rfl⟩
set_option maxRecDepth 100000 in
set_option maxHeartbeats 4000000 in
theorem c_X4_inAll (l : Launch) (D : va_G) (cI cZ cR : ClassId) (a_rain : Nat) (a_house : Nat) (a_rain_spoons : Nat) (a_house_years : Nat) (a_house_spoons : Nat) (a_house_shrinks : Nat) (a_house_sorts : Nat) (a_house_byAge : Nat) (rain_springs : Int32) (rain_lost : Int32) (house_pans : Int32) (house_least : Int32) (house_shelf : Int32) (rain_spoons : Nat → Int32) (out : Int32) (hf : f_X4_inAll house_pans rain_spoons = some out) : Ci l yX4_inAll wsX4_inAll rmX4_inAll D cI cZ cR [.ref a_rain] [(a_rain, .inr (4, [.ref a_house, .ref a_rain_spoons, .int rain_springs, .int rain_lost])), (a_house, .inr (2, [.int house_pans, .int house_least, .int house_shelf, .ref a_house_years, .ref a_house_spoons, .ref a_house_shrinks, .ref a_house_sorts, .ref a_house_byAge])), (a_rain_spoons, .inl (cI, 49, .inl rain_spoons))] out [(a_rain, .inr (4, [.ref a_house, .ref a_rain_spoons, .int rain_springs, .int rain_lost])), (a_house, .inr (2, [.int house_pans, .int house_least, .int house_shelf, .ref a_house_years, .ref a_house_spoons, .ref a_house_shrinks, .ref a_house_sorts, .ref a_house_byAge])), (a_rain_spoons, .inl (cI, 49, .inl rain_spoons))] := by
  refine ent_i (cc := cX4_inAll) (maxL := 3) .int (by decide) rfl (Nat.le_of_ble_eq_true rfl) ?_
  intro p e s m below meth c A Q hx hb hml hown hts hE hA hP hD hS hret ls hl
  have hown : s.vm.findClass RX4 = some m.cls := hown
  have hl : lv_has ls 3 [(0, .ref a_rain)] := hl
  have fL15 := hts (.fieldLink RX4 15 "RainShelves$Rain" "house" "LRainShelves$House;") (List.mem_of_getElem? (i := 1) rfl)
  have fL26 : (Cond.fieldLinkNest RX4 26 "RainShelves$House" "pans" "I" "RainShelves").before ([.ref a_rain] : List Value).toArray s = true := hE.nf 1 rfl
  unfold f_X4_inAll at hf
  have L4 : ∀ (n4 : Nat) (v1_4 : Int32) (v2_4 : Int32), f_X4_inAll_L4 house_pans rain_spoons n4 v1_4 v2_4 = some out → ∀ (H : Heap) (locs : List Loc) (ls : Array Slot), PD D A [(a_rain, .inr (4, [.ref a_house, .ref a_rain_spoons, .int rain_springs, .int rain_lost])), (a_house, .inr (2, [.int house_pans, .int house_least, .int house_shelf, .ref a_house_years, .ref a_house_spoons, .ref a_house_shrinks, .ref a_house_sorts, .ref a_house_byAge])), (a_rain_spoons, .inl (cI, 49, .inl rain_spoons))] H → va_S A s.heap H locs → lv_has ls 3 [(0, .ref a_rain), (1, .int v1_4), (2, .int v2_4)] → W p l e rmX4_inAll s m ([.ref a_rain] : List Value).toArray below meth c H locs 0 0 Q (F0 m 4 ls []) := by
    intro  n4
    induction n4 with
    | zero => intro v1_4 v2_4 hf; cases hf
    | succ n4 ih4 =>
      intro v1_4 v2_4 hf H locs ls hPD hS hl
      obtain ⟨hP, hD⟩ := hPD
      have hf : f_X4_inAll_B4 house_pans rain_spoons (f_X4_inAll_L4 house_pans rain_spoons n4) v1_4 v2_4 = some out := hf
      unfold f_X4_inAll_B4 at hf
      refine lv_iload_n hx hb dX4_inAll_4 rfl (lv_at hl 2 rfl) ?_
      refine lv_aload_n hx hb dX4_inAll_5 rfl (lv_at hl 0 rfl) ?_
      refine va_get (D := D) (ci := 4) (v := .ref a_house) (C := RX4) (T := TX4) (N := 4) hx hb hts hiX4_inAll_4 hown hE.1 hP 0 rfl rfl 0 (by decide) fL15 (fun _ h9 => h9) rfl dX4_inAll_6 ?_
      refine va_getN (D := D) (ci := 2) (v := .int house_pans) (C := RX2) (T := TX2) (N := 8) hx hb hts hiX4_inAll_2 hown hE.1 hP 1 rfl rfl 0 (by decide) fL26 (fun _ h9 => h9) rfl dX4_inAll_9 ?_
      refine lv_icmp_ge (tgt := 29) hx hb dX4_inAll_12 (by decide) (fun hc1 => ?_) (fun hc1 => ?_)
      · have hf := if_t hf hc1
        refine lv_iload_n hx hb dX4_inAll_29 rfl (lv_at hl 1 rfl) ?_
        have he := Option.some.inj hf
        subst he
        exact hret _ _ _ _ dX4_inAll_30 rfl hP hD hS
      · have hf := if_f hf hc1
        refine lv_iload_n hx hb dX4_inAll_15 rfl (lv_at hl 1 rfl) ?_
        refine lv_aload_n hx hb dX4_inAll_16 rfl (lv_at hl 0 rfl) ?_
        refine lv_iload_n hx hb dX4_inAll_17 rfl (lv_at hl 2 rfl) ?_
        obtain ⟨u1, hu1, hf⟩ := bd_some hf
        refine cl_iV (As := [.int v2_4]) (rest := [.int v1_4]) ⟨hx, hb, hml, hown, hts⟩ (c_X4_inPan l D cI cZ cR a_rain a_house a_rain_spoons a_house_years a_house_spoons a_house_shrinks a_house_sorts a_house_byAge rain_springs rain_lost house_pans house_least house_shelf rain_spoons v2_4 u1 hu1) (cw_X4_inAll_X4_inPan_39 hts) hE hP hD hS hA [0, 1, 2] rfl rfl [a_rain, a_house, a_rain_spoons] rfl rfl 0 4 rfl rfl rfl hl.1 rfl (Nat.le_of_ble_eq_true rfl) dX4_inAll_18 ⟨Nat.zero_le _, Nat.zero_le _⟩ (fun H locs hP hD hS => ?_)
        have hPD : PD D A [(a_rain, .inr (4, [.ref a_house, .ref a_rain_spoons, .int rain_springs, .int rain_lost])), (a_house, .inr (2, [.int house_pans, .int house_least, .int house_shelf, .ref a_house_years, .ref a_house_spoons, .ref a_house_shrinks, .ref a_house_sorts, .ref a_house_byAge])), (a_rain_spoons, .inl (cI, 49, .inl rain_spoons))] H := ⟨hP, hD⟩
        obtain ⟨hP, hD⟩ := hPD
        refine lv_iadd hx hb dX4_inAll_21 ?_
        refine lv_istore_n (lv' := [(1, .int (v1_4 + u1)), (0, .ref a_rain), (2, .int v2_4)]) hx hb dX4_inAll_22 rfl hl (by decide) rfl (fun ls hl => ?_)
        refine lv_iinc (v := (v2_4 + 1)) (lv' := [(2, .int (v2_4 + 1)), (1, .int (v1_4 + u1)), (0, .ref a_rain)]) hx hb dX4_inAll_23 hl (k := 2) rfl (ii_p1 _) (by decide) rfl (fun ls hl => ?_)
        refine lv_goto (tgt := 4) hx hb dX4_inAll_26 (by decide) ?_
        exact ih4 (v1_4 + u1) (v2_4 + 1) hf _ _ _ ⟨hP, hD⟩ hS (lv_sub hl [2, 1, 0] rfl)
  refine lv_iconst (v := 0) hx hb dX4_inAll_0 (by decide) ?_
  refine lv_istore_n (lv' := [(1, .int 0), (0, .ref a_rain)]) hx hb dX4_inAll_1 rfl hl (by decide) rfl (fun ls hl => ?_)
  refine lv_iconst (v := 0) hx hb dX4_inAll_2 (by decide) ?_
  refine lv_istore_n (lv' := [(2, .int 0), (1, .int 0), (0, .ref a_rain)]) hx hb dX4_inAll_3 rfl hl (by decide) rfl (fun ls hl => ?_)
  exact L4  FU 0 0 hf _ _ _ ⟨hP, hD⟩ hS (lv_sub hl [2, 1, 0] rfl)
abbrev rmX4_tasteOf : Room := { frames := 2, cells := 0, slots := 0, locals := 43 }
theorem hiX4_tasteOf_2 : ∀ w ∈ wsX20, w ∈ wsX4_tasteOf := fun w h => (goodIn_r (big := wsX4_tasteOf) wsX20 [15, 16, 17, 18, 19, 20, 21, 22] rfl (by decide +kernel) w h).1
theorem hiX4_tasteOf_4 : ∀ w ∈ wsX40, w ∈ wsX4_tasteOf := fun w h => (goodIn_r (big := wsX4_tasteOf) wsX40 [11, 12, 13, 14] rfl (by decide +kernel) w h).1
theorem cw_X4_tasteOf_X4_amount_36 {s : State} {args : Array Value} (hts : ∀ x ∈ wsX4_tasteOf, x.before args s = true) : CallW rmX4_tasteOf s args RX4 RX4 36 yX4_amount cX4_amount 3 (some .int) wsX4_amount rmX4_amount 0 0 2 := cwV 2 hts gX4_tasteOf_X4_amount rfl rfl rfl (by decide +kernel) ⟨Nat.le_of_ble_eq_true rfl, Nat.le_of_ble_eq_true rfl⟩
set_option maxRecDepth 100000 in
set_option maxHeartbeats 4000000 in
theorem c_X4_tasteOf (l : Launch) (D : va_G) (cI cZ cR : ClassId) (a_rain : Nat) (a_house : Nat) (a_rain_spoons : Nat) (a_house_years : Nat) (a_house_spoons : Nat) (a_house_shrinks : Nat) (a_house_sorts : Nat) (a_house_byAge : Nat) (rain_springs : Int32) (rain_lost : Int32) (house_pans : Int32) (house_least : Int32) (house_shelf : Int32) (rain_spoons : Nat → Int32) (house_years : Nat → Int32) (v1 : Int32) (out : Int32) (hf : f_X4_tasteOf house_pans rain_spoons house_years v1 = some out) : Ci l yX4_tasteOf wsX4_tasteOf rmX4_tasteOf D cI cZ cR [.ref a_rain, .int v1] [(a_rain, .inr (4, [.ref a_house, .ref a_rain_spoons, .int rain_springs, .int rain_lost])), (a_house, .inr (2, [.int house_pans, .int house_least, .int house_shelf, .ref a_house_years, .ref a_house_spoons, .ref a_house_shrinks, .ref a_house_sorts, .ref a_house_byAge])), (a_rain_spoons, .inl (cI, 49, .inl rain_spoons)), (a_house_years, .inl (cI, 7, .inl house_years))] out [(a_rain, .inr (4, [.ref a_house, .ref a_rain_spoons, .int rain_springs, .int rain_lost])), (a_house, .inr (2, [.int house_pans, .int house_least, .int house_shelf, .ref a_house_years, .ref a_house_spoons, .ref a_house_shrinks, .ref a_house_sorts, .ref a_house_byAge])), (a_rain_spoons, .inl (cI, 49, .inl rain_spoons)), (a_house_years, .inl (cI, 7, .inl house_years))] := by
  refine ent_i (cc := cX4_tasteOf) (maxL := 4) .int (by decide) rfl (Nat.le_of_ble_eq_true rfl) ?_
  intro p e s m below meth c A Q hx hb hml hown hts hE hA hP hD hS hret ls hl
  have hown : s.vm.findClass RX4 = some m.cls := hown
  have hl : lv_has ls 4 [(0, .ref a_rain), (1, .int v1)] := hl
  have fL15 := hts (.fieldLink RX4 15 "RainShelves$Rain" "house" "LRainShelves$House;") (List.mem_of_getElem? (i := 1) rfl)
  have fL26 : (Cond.fieldLinkNest RX4 26 "RainShelves$House" "pans" "I" "RainShelves").before ([.ref a_rain, .int v1] : List Value).toArray s = true := hE.nf 1 rfl
  have fL43 : (Cond.fieldLinkNest RX4 43 "RainShelves$House" "years" "[I" "RainShelves").before ([.ref a_rain, .int v1] : List Value).toArray s = true := hE.nf 11 rfl
  unfold f_X4_tasteOf at hf
  have L4 : ∀ (n4 : Nat) (v2_4 : Int32) (v3_4 : Int32), f_X4_tasteOf_L4 house_pans rain_spoons house_years v1 n4 v2_4 v3_4 = some out → ∀ (H : Heap) (locs : List Loc) (ls : Array Slot), PD D A [(a_rain, .inr (4, [.ref a_house, .ref a_rain_spoons, .int rain_springs, .int rain_lost])), (a_house, .inr (2, [.int house_pans, .int house_least, .int house_shelf, .ref a_house_years, .ref a_house_spoons, .ref a_house_shrinks, .ref a_house_sorts, .ref a_house_byAge])), (a_rain_spoons, .inl (cI, 49, .inl rain_spoons)), (a_house_years, .inl (cI, 7, .inl house_years))] H → va_S A s.heap H locs → lv_has ls 4 [(0, .ref a_rain), (1, .int v1), (2, .int v2_4), (3, .int v3_4)] → W p l e rmX4_tasteOf s m ([.ref a_rain, .int v1] : List Value).toArray below meth c H locs 0 0 Q (F0 m 4 ls []) := by
    intro  n4
    induction n4 with
    | zero => intro v2_4 v3_4 hf; cases hf
    | succ n4 ih4 =>
      intro v2_4 v3_4 hf H locs ls hPD hS hl
      obtain ⟨hP, hD⟩ := hPD
      have hf : f_X4_tasteOf_B4 house_pans rain_spoons house_years v1 (f_X4_tasteOf_L4 house_pans rain_spoons house_years v1 n4) v2_4 v3_4 = some out := hf
      unfold f_X4_tasteOf_B4 at hf
      refine lv_iload_n hx hb dX4_tasteOf_4 rfl (lv_at hl 3 rfl) ?_
      refine lv_aload_n hx hb dX4_tasteOf_5 rfl (lv_at hl 0 rfl) ?_
      refine va_get (D := D) (ci := 4) (v := .ref a_house) (C := RX4) (T := TX4) (N := 4) hx hb hts hiX4_tasteOf_4 hown hE.1 hP 0 rfl rfl 0 (by decide) fL15 (fun _ h9 => h9) rfl dX4_tasteOf_6 ?_
      refine va_getN (D := D) (ci := 2) (v := .int house_pans) (C := RX2) (T := TX2) (N := 8) hx hb hts hiX4_tasteOf_2 hown hE.1 hP 1 rfl rfl 0 (by decide) fL26 (fun _ h9 => h9) rfl dX4_tasteOf_9 ?_
      refine lv_icmp_ge (tgt := 40) hx hb dX4_tasteOf_12 (by decide) (fun hc1 => ?_) (fun hc1 => ?_)
      · have hf := if_t hf hc1
        refine lv_iload_n hx hb dX4_tasteOf_40 rfl (lv_at hl 2 rfl) ?_
        have he := Option.some.inj hf
        subst he
        exact hret _ _ _ _ dX4_tasteOf_41 rfl hP hD hS
      · have hf := if_f hf hc1
        refine lv_iload_n hx hb dX4_tasteOf_15 rfl (lv_at hl 2 rfl) ?_
        refine lv_aload_n hx hb dX4_tasteOf_16 rfl (lv_at hl 0 rfl) ?_
        refine lv_iload_n hx hb dX4_tasteOf_17 rfl (lv_at hl 1 rfl) ?_
        refine lv_iload_n hx hb dX4_tasteOf_18 rfl (lv_at hl 3 rfl) ?_
        obtain ⟨u1, hu1, hf⟩ := bd_some hf
        refine cl_iV (As := [.int v1, .int v3_4]) (rest := [.int v2_4]) ⟨hx, hb, hml, hown, hts⟩ (c_X4_amount l D cI cZ cR a_rain a_rain_spoons a_house rain_springs rain_lost rain_spoons v1 v3_4 u1 hu1) (cw_X4_tasteOf_X4_amount_36 hts) hE hP hD hS hA [0, 2] rfl rfl [a_rain, a_rain_spoons] rfl rfl 0 4 rfl rfl rfl hl.1 rfl (Nat.le_of_ble_eq_true rfl) dX4_tasteOf_19 ⟨Nat.zero_le _, Nat.zero_le _⟩ (fun H locs hP hD hS => ?_)
        have hPD : PD D A [(a_rain, .inr (4, [.ref a_house, .ref a_rain_spoons, .int rain_springs, .int rain_lost])), (a_house, .inr (2, [.int house_pans, .int house_least, .int house_shelf, .ref a_house_years, .ref a_house_spoons, .ref a_house_shrinks, .ref a_house_sorts, .ref a_house_byAge])), (a_rain_spoons, .inl (cI, 49, .inl rain_spoons)), (a_house_years, .inl (cI, 7, .inl house_years))] H := ⟨hP, hD⟩
        obtain ⟨hP, hD⟩ := hPD
        refine lv_aload_n hx hb dX4_tasteOf_22 rfl (lv_at hl 0 rfl) ?_
        refine va_get (D := D) (ci := 4) (v := .ref a_house) (C := RX4) (T := TX4) (N := 4) hx hb hts hiX4_tasteOf_4 hown hE.1 hP 0 rfl rfl 0 (by decide) fL15 (fun _ h9 => h9) rfl dX4_tasteOf_23 ?_
        refine va_getN (D := D) (ci := 2) (v := .ref a_house_years) (C := RX2) (T := TX2) (N := 8) hx hb hts hiX4_tasteOf_2 hown hE.1 hP 1 rfl rfl 3 (by decide) fL43 (fun _ h9 => h9) rfl dX4_tasteOf_26 ?_
        refine lv_iload_n hx hb dX4_tasteOf_29 rfl (lv_at hl 3 rfl) ?_
        obtain ⟨hc2, hf⟩ := ck_some hf
        refine va_iald hx hb hE.1 hP 3 0 rfl rfl (ix_in hc2) dX4_tasteOf_30 ?_
        refine lv_imul hx hb dX4_tasteOf_31 ?_
        refine lv_iadd hx hb dX4_tasteOf_32 ?_
        refine lv_istore_n (lv' := [(2, .int (v2_4 + (u1 * (house_years v3_4.toNatClampNeg)))), (0, .ref a_rain), (1, .int v1), (3, .int v3_4)]) hx hb dX4_tasteOf_33 rfl hl (by decide) rfl (fun ls hl => ?_)
        refine lv_iinc (v := (v3_4 + 1)) (lv' := [(3, .int (v3_4 + 1)), (2, .int (v2_4 + (u1 * (house_years v3_4.toNatClampNeg)))), (0, .ref a_rain), (1, .int v1)]) hx hb dX4_tasteOf_34 hl (k := 3) rfl (ii_p1 _) (by decide) rfl (fun ls hl => ?_)
        refine lv_goto (tgt := 4) hx hb dX4_tasteOf_37 (by decide) ?_
        exact ih4 (v2_4 + (u1 * (house_years v3_4.toNatClampNeg))) (v3_4 + 1) hf _ _ _ ⟨hP, hD⟩ hS (lv_sub hl [2, 3, 1, 0] rfl)
  refine lv_iconst (v := 0) hx hb dX4_tasteOf_0 (by decide) ?_
  refine lv_istore_n (lv' := [(2, .int 0), (0, .ref a_rain), (1, .int v1)]) hx hb dX4_tasteOf_1 rfl hl (by decide) rfl (fun ls hl => ?_)
  refine lv_iconst (v := 0) hx hb dX4_tasteOf_2 (by decide) ?_
  refine lv_istore_n (lv' := [(3, .int 0), (2, .int 0), (0, .ref a_rain), (1, .int v1)]) hx hb dX4_tasteOf_3 rfl hl (by decide) rfl (fun ls hl => ?_)
  exact L4  FU 0 0 hf _ _ _ ⟨hP, hD⟩ hS (lv_sub hl [2, 3, 1, 0] rfl)
abbrev rmX4_whereIs : Room := { frames := 2, cells := 0, slots := 0, locals := 43 }
theorem hiX4_whereIs_2 : ∀ w ∈ wsX20, w ∈ wsX4_whereIs := fun w h => (goodIn_r (big := wsX4_whereIs) wsX20 [15, 16, 17, 18, 19, 20, 21, 22] rfl (by decide +kernel) w h).1
theorem hiX4_whereIs_4 : ∀ w ∈ wsX40, w ∈ wsX4_whereIs := fun w h => (goodIn_r (big := wsX4_whereIs) wsX40 [11, 12, 13, 14] rfl (by decide +kernel) w h).1
theorem cw_X4_whereIs_X4_amount_36 {s : State} {args : Array Value} (hts : ∀ x ∈ wsX4_whereIs, x.before args s = true) : CallW rmX4_whereIs s args RX4 RX4 36 yX4_amount cX4_amount 3 (some .int) wsX4_amount rmX4_amount 0 0 2 := cwV 2 hts gX4_whereIs_X4_amount rfl rfl rfl (by decide +kernel) ⟨Nat.le_of_ble_eq_true rfl, Nat.le_of_ble_eq_true rfl⟩
set_option maxRecDepth 100000 in
set_option maxHeartbeats 4000000 in
theorem c_X4_whereIs (l : Launch) (D : va_G) (cI cZ cR : ClassId) (a_rain : Nat) (a_house : Nat) (a_rain_spoons : Nat) (a_house_years : Nat) (a_house_spoons : Nat) (a_house_shrinks : Nat) (a_house_sorts : Nat) (a_house_byAge : Nat) (rain_springs : Int32) (rain_lost : Int32) (house_pans : Int32) (house_least : Int32) (house_shelf : Int32) (rain_spoons : Nat → Int32) (v1 : Int32) (out : Int32) (hf : f_X4_whereIs house_pans rain_spoons v1 = some out) : Ci l yX4_whereIs wsX4_whereIs rmX4_whereIs D cI cZ cR [.ref a_rain, .int v1] [(a_rain, .inr (4, [.ref a_house, .ref a_rain_spoons, .int rain_springs, .int rain_lost])), (a_house, .inr (2, [.int house_pans, .int house_least, .int house_shelf, .ref a_house_years, .ref a_house_spoons, .ref a_house_shrinks, .ref a_house_sorts, .ref a_house_byAge])), (a_rain_spoons, .inl (cI, 49, .inl rain_spoons))] out [(a_rain, .inr (4, [.ref a_house, .ref a_rain_spoons, .int rain_springs, .int rain_lost])), (a_house, .inr (2, [.int house_pans, .int house_least, .int house_shelf, .ref a_house_years, .ref a_house_spoons, .ref a_house_shrinks, .ref a_house_sorts, .ref a_house_byAge])), (a_rain_spoons, .inl (cI, 49, .inl rain_spoons))] := by
  refine ent_i (cc := cX4_whereIs) (maxL := 4) .int (by decide) rfl (Nat.le_of_ble_eq_true rfl) ?_
  intro p e s m below meth c A Q hx hb hml hown hts hE hA hP hD hS hret ls hl
  have hown : s.vm.findClass RX4 = some m.cls := hown
  have hl : lv_has ls 4 [(0, .ref a_rain), (1, .int v1)] := hl
  have fL15 := hts (.fieldLink RX4 15 "RainShelves$Rain" "house" "LRainShelves$House;") (List.mem_of_getElem? (i := 1) rfl)
  have fL26 : (Cond.fieldLinkNest RX4 26 "RainShelves$House" "pans" "I" "RainShelves").before ([.ref a_rain, .int v1] : List Value).toArray s = true := hE.nf 1 rfl
  unfold f_X4_whereIs at hf
  have L4 : ∀ (n4 : Nat) (v2_4 : Int32) (v3_4 : Int32), f_X4_whereIs_L4 house_pans rain_spoons v1 n4 v2_4 v3_4 = some out → ∀ (H : Heap) (locs : List Loc) (ls : Array Slot), PD D A [(a_rain, .inr (4, [.ref a_house, .ref a_rain_spoons, .int rain_springs, .int rain_lost])), (a_house, .inr (2, [.int house_pans, .int house_least, .int house_shelf, .ref a_house_years, .ref a_house_spoons, .ref a_house_shrinks, .ref a_house_sorts, .ref a_house_byAge])), (a_rain_spoons, .inl (cI, 49, .inl rain_spoons))] H → va_S A s.heap H locs → lv_has ls 4 [(0, .ref a_rain), (1, .int v1), (2, .int v2_4), (3, .int v3_4)] → W p l e rmX4_whereIs s m ([.ref a_rain, .int v1] : List Value).toArray below meth c H locs 0 0 Q (F0 m 4 ls []) := by
    intro  n4
    induction n4 with
    | zero => intro v2_4 v3_4 hf; cases hf
    | succ n4 ih4 =>
      intro v2_4 v3_4 hf H locs ls hPD hS hl
      obtain ⟨hP, hD⟩ := hPD
      have hf : f_X4_whereIs_B4 house_pans rain_spoons v1 (f_X4_whereIs_L4 house_pans rain_spoons v1 n4) v2_4 v3_4 = some out := hf
      unfold f_X4_whereIs_B4 at hf
      refine lv_iload_n hx hb dX4_whereIs_4 rfl (lv_at hl 3 rfl) ?_
      refine lv_aload_n hx hb dX4_whereIs_5 rfl (lv_at hl 0 rfl) ?_
      refine va_get (D := D) (ci := 4) (v := .ref a_house) (C := RX4) (T := TX4) (N := 4) hx hb hts hiX4_whereIs_4 hown hE.1 hP 0 rfl rfl 0 (by decide) fL15 (fun _ h9 => h9) rfl dX4_whereIs_6 ?_
      refine va_getN (D := D) (ci := 2) (v := .int house_pans) (C := RX2) (T := TX2) (N := 8) hx hb hts hiX4_whereIs_2 hown hE.1 hP 1 rfl rfl 0 (by decide) fL26 (fun _ h9 => h9) rfl dX4_whereIs_9 ?_
      refine lv_icmp_ge (tgt := 36) hx hb dX4_whereIs_12 (by decide) (fun hc1 => ?_) (fun hc1 => ?_)
      · have hf := if_t hf hc1
        refine lv_iload_n hx hb dX4_whereIs_36 rfl (lv_at hl 2 rfl) ?_
        have he := Option.some.inj hf
        subst he
        exact hret _ _ _ _ dX4_whereIs_37 rfl hP hD hS
      · have hf := if_f hf hc1
        refine lv_aload_n hx hb dX4_whereIs_15 rfl (lv_at hl 0 rfl) ?_
        refine lv_iload_n hx hb dX4_whereIs_16 rfl (lv_at hl 3 rfl) ?_
        refine lv_iload_n hx hb dX4_whereIs_17 rfl (lv_at hl 1 rfl) ?_
        obtain ⟨u1, hu1, hf⟩ := bd_some hf
        refine cl_iV (As := [.int v3_4, .int v1]) (rest := []) ⟨hx, hb, hml, hown, hts⟩ (c_X4_amount l D cI cZ cR a_rain a_rain_spoons a_house rain_springs rain_lost rain_spoons v3_4 v1 u1 hu1) (cw_X4_whereIs_X4_amount_36 hts) hE hP hD hS hA [0, 2] rfl rfl [a_rain, a_rain_spoons] rfl rfl 0 4 rfl rfl rfl hl.1 rfl (Nat.le_of_ble_eq_true rfl) dX4_whereIs_18 ⟨Nat.zero_le _, Nat.zero_le _⟩ (fun H locs hP hD hS => ?_)
        have hPD : PD D A [(a_rain, .inr (4, [.ref a_house, .ref a_rain_spoons, .int rain_springs, .int rain_lost])), (a_house, .inr (2, [.int house_pans, .int house_least, .int house_shelf, .ref a_house_years, .ref a_house_spoons, .ref a_house_shrinks, .ref a_house_sorts, .ref a_house_byAge])), (a_rain_spoons, .inl (cI, 49, .inl rain_spoons))] H := ⟨hP, hD⟩
        obtain ⟨hP, hD⟩ := hPD
        refine lv_if_le (tgt := 30) hx hb dX4_whereIs_21 (by decide) (fun hc2 => ?_) (fun hc2 => ?_)
        · have hf := if_t hf hc2
          refine lv_iinc (v := (v3_4 + 1)) (lv' := [(3, .int (v3_4 + 1)), (0, .ref a_rain), (1, .int v1), (2, .int v2_4)]) hx hb dX4_whereIs_30 hl (k := 3) rfl (ii_p1 _) (by decide) rfl (fun ls hl => ?_)
          refine lv_goto (tgt := 4) hx hb dX4_whereIs_33 (by decide) ?_
          exact ih4 v2_4 (v3_4 + 1) hf _ _ _ ⟨hP, hD⟩ hS (lv_sub hl [1, 2, 3, 0] rfl)
        · have hf := if_f hf hc2
          refine lv_iload_n hx hb dX4_whereIs_24 rfl (lv_at hl 2 rfl) ?_
          refine lv_iconst (v := 1) hx hb dX4_whereIs_25 (by decide) ?_
          refine lv_iload_n hx hb dX4_whereIs_26 rfl (lv_at hl 3 rfl) ?_
          refine lv_ishl hx hb dX4_whereIs_27 ?_
          refine lv_ior hx hb dX4_whereIs_28 ?_
          refine lv_istore_n (lv' := [(2, .int (v2_4 ||| ((1 : Int32) <<< (v3_4 &&& 31)))), (0, .ref a_rain), (1, .int v1), (3, .int v3_4)]) hx hb dX4_whereIs_29 rfl hl (by decide) rfl (fun ls hl => ?_)
          refine lv_iinc (v := (v3_4 + 1)) (lv' := [(3, .int (v3_4 + 1)), (2, .int (v2_4 ||| ((1 : Int32) <<< (v3_4 &&& 31)))), (0, .ref a_rain), (1, .int v1)]) hx hb dX4_whereIs_30 hl (k := 3) rfl (ii_p1 _) (by decide) rfl (fun ls hl => ?_)
          refine lv_goto (tgt := 4) hx hb dX4_whereIs_33 (by decide) ?_
          exact ih4 (v2_4 ||| ((1 : Int32) <<< (v3_4 &&& 31))) (v3_4 + 1) hf _ _ _ ⟨hP, hD⟩ hS (lv_sub hl [2, 3, 1, 0] rfl)
  refine lv_iconst (v := 0) hx hb dX4_whereIs_0 (by decide) ?_
  refine lv_istore_n (lv' := [(2, .int 0), (0, .ref a_rain), (1, .int v1)]) hx hb dX4_whereIs_1 rfl hl (by decide) rfl (fun ls hl => ?_)
  refine lv_iconst (v := 0) hx hb dX4_whereIs_2 (by decide) ?_
  refine lv_istore_n (lv' := [(3, .int 0), (2, .int 0), (0, .ref a_rain), (1, .int v1)]) hx hb dX4_whereIs_3 rfl hl (by decide) rfl (fun ls hl => ?_)
  exact L4  FU 0 0 hf _ _ _ ⟨hP, hD⟩ hS (lv_sub hl [2, 3, 1, 0] rfl)
abbrev rmX4_ofYear : Room := { frames := 2, cells := 0, slots := 0, locals := 43 }
theorem hiX4_ofYear_2 : ∀ w ∈ wsX20, w ∈ wsX4_ofYear := fun w h => (goodIn_r (big := wsX4_ofYear) wsX20 [15, 16, 17, 18, 19, 20, 21, 22] rfl (by decide +kernel) w h).1
theorem hiX4_ofYear_4 : ∀ w ∈ wsX40, w ∈ wsX4_ofYear := fun w h => (goodIn_r (big := wsX4_ofYear) wsX40 [11, 12, 13, 14] rfl (by decide +kernel) w h).1
theorem cw_X4_ofYear_X4_amount_36 {s : State} {args : Array Value} (hts : ∀ x ∈ wsX4_ofYear, x.before args s = true) : CallW rmX4_ofYear s args RX4 RX4 36 yX4_amount cX4_amount 3 (some .int) wsX4_amount rmX4_amount 0 0 2 := cwV 2 hts gX4_ofYear_X4_amount rfl rfl rfl (by decide +kernel) ⟨Nat.le_of_ble_eq_true rfl, Nat.le_of_ble_eq_true rfl⟩
set_option maxRecDepth 100000 in
set_option maxHeartbeats 4000000 in
theorem c_X4_ofYear (l : Launch) (D : va_G) (cI cZ cR : ClassId) (a_rain : Nat) (a_house : Nat) (a_house_years : Nat) (a_rain_spoons : Nat) (a_house_spoons : Nat) (a_house_shrinks : Nat) (a_house_sorts : Nat) (a_house_byAge : Nat) (rain_springs : Int32) (rain_lost : Int32) (house_pans : Int32) (house_least : Int32) (house_shelf : Int32) (house_years : Nat → Int32) (rain_spoons : Nat → Int32) (v1 : Int32) (out : Int32) (hf : f_X4_ofYear house_pans house_years rain_spoons v1 = some out) : Ci l yX4_ofYear wsX4_ofYear rmX4_ofYear D cI cZ cR [.ref a_rain, .int v1] [(a_rain, .inr (4, [.ref a_house, .ref a_rain_spoons, .int rain_springs, .int rain_lost])), (a_house, .inr (2, [.int house_pans, .int house_least, .int house_shelf, .ref a_house_years, .ref a_house_spoons, .ref a_house_shrinks, .ref a_house_sorts, .ref a_house_byAge])), (a_house_years, .inl (cI, 7, .inl house_years)), (a_rain_spoons, .inl (cI, 49, .inl rain_spoons))] out [(a_rain, .inr (4, [.ref a_house, .ref a_rain_spoons, .int rain_springs, .int rain_lost])), (a_house, .inr (2, [.int house_pans, .int house_least, .int house_shelf, .ref a_house_years, .ref a_house_spoons, .ref a_house_shrinks, .ref a_house_sorts, .ref a_house_byAge])), (a_house_years, .inl (cI, 7, .inl house_years)), (a_rain_spoons, .inl (cI, 49, .inl rain_spoons))] := by
  refine ent_i (cc := cX4_ofYear) (maxL := 5) .int (by decide) rfl (Nat.le_of_ble_eq_true rfl) ?_
  intro p e s m below meth c A Q hx hb hml hown hts hE hA hP hD hS hret ls hl
  have hown : s.vm.findClass RX4 = some m.cls := hown
  have hl : lv_has ls 5 [(0, .ref a_rain), (1, .int v1)] := hl
  have fL15 := hts (.fieldLink RX4 15 "RainShelves$Rain" "house" "LRainShelves$House;") (List.mem_of_getElem? (i := 1) rfl)
  have fL26 : (Cond.fieldLinkNest RX4 26 "RainShelves$House" "pans" "I" "RainShelves").before ([.ref a_rain, .int v1] : List Value).toArray s = true := hE.nf 1 rfl
  have fL43 : (Cond.fieldLinkNest RX4 43 "RainShelves$House" "years" "[I" "RainShelves").before ([.ref a_rain, .int v1] : List Value).toArray s = true := hE.nf 11 rfl
  unfold f_X4_ofYear at hf
  have L4 : ∀ (n4 : Nat) (v2_4 : Int32) (v3_4 : Int32), f_X4_ofYear_L4 house_pans house_years rain_spoons v1 n4 v2_4 v3_4 = some out → ∀ (H : Heap) (locs : List Loc) (ls : Array Slot), PD D A [(a_rain, .inr (4, [.ref a_house, .ref a_rain_spoons, .int rain_springs, .int rain_lost])), (a_house, .inr (2, [.int house_pans, .int house_least, .int house_shelf, .ref a_house_years, .ref a_house_spoons, .ref a_house_shrinks, .ref a_house_sorts, .ref a_house_byAge])), (a_house_years, .inl (cI, 7, .inl house_years)), (a_rain_spoons, .inl (cI, 49, .inl rain_spoons))] H → va_S A s.heap H locs → lv_has ls 5 [(0, .ref a_rain), (1, .int v1), (2, .int v2_4), (3, .int v3_4)] → W p l e rmX4_ofYear s m ([.ref a_rain, .int v1] : List Value).toArray below meth c H locs 0 0 Q (F0 m 4 ls []) := by
    intro  n4
    induction n4 with
    | zero => intro v2_4 v3_4 hf; cases hf
    | succ n4 ih4 =>
      intro v2_4 v3_4 hf H locs ls hPD hS hl
      obtain ⟨hP, hD⟩ := hPD
      have hf : f_X4_ofYear_B4 house_pans house_years rain_spoons v1 (f_X4_ofYear_L4 house_pans house_years rain_spoons v1 n4) v2_4 v3_4 = some out := hf
      unfold f_X4_ofYear_B4 at hf
      have L18 : ∀ (n18 : Nat) (v2_18 : Int32) (v4_18 : Int32), f_X4_ofYear_L18 house_pans house_years rain_spoons v3_4 v1 (f_X4_ofYear_L4 house_pans house_years rain_spoons v1 n4) n18 v2_18 v4_18 = some out → ∀ (H : Heap) (locs : List Loc) (ls : Array Slot), PD D A [(a_rain, .inr (4, [.ref a_house, .ref a_rain_spoons, .int rain_springs, .int rain_lost])), (a_house, .inr (2, [.int house_pans, .int house_least, .int house_shelf, .ref a_house_years, .ref a_house_spoons, .ref a_house_shrinks, .ref a_house_sorts, .ref a_house_byAge])), (a_house_years, .inl (cI, 7, .inl house_years)), (a_rain_spoons, .inl (cI, 49, .inl rain_spoons))] H → va_S A s.heap H locs → lv_has ls 5 [(0, .ref a_rain), (1, .int v1), (2, .int v2_18), (3, .int v3_4), (4, .int v4_18)] → W p l e rmX4_ofYear s m ([.ref a_rain, .int v1] : List Value).toArray below meth c H locs 0 0 Q (F0 m 18 ls []) := by
        intro  n18
        induction n18 with
        | zero => intro v2_18 v4_18 hf; cases hf
        | succ n18 ih18 =>
          intro v2_18 v4_18 hf H locs ls hPD hS hl
          obtain ⟨hP, hD⟩ := hPD
          have hf : f_X4_ofYear_B18 house_pans house_years rain_spoons v3_4 v1 (f_X4_ofYear_L4 house_pans house_years rain_spoons v1 n4) (f_X4_ofYear_L18 house_pans house_years rain_spoons v3_4 v1 (f_X4_ofYear_L4 house_pans house_years rain_spoons v1 n4) n18) v2_18 v4_18 = some out := hf
          unfold f_X4_ofYear_B18 at hf
          refine lv_aload_n hx hb dX4_ofYear_18 rfl (lv_at hl 0 rfl) ?_
          refine va_get (D := D) (ci := 4) (v := .ref a_house) (C := RX4) (T := TX4) (N := 4) hx hb hts hiX4_ofYear_4 hown hE.1 hP 0 rfl rfl 0 (by decide) fL15 (fun _ h9 => h9) rfl dX4_ofYear_19 ?_
          refine va_getN (D := D) (ci := 2) (v := .ref a_house_years) (C := RX2) (T := TX2) (N := 8) hx hb hts hiX4_ofYear_2 hown hE.1 hP 1 rfl rfl 3 (by decide) fL43 (fun _ h9 => h9) rfl dX4_ofYear_22 ?_
          refine lv_iload_n hx hb dX4_ofYear_25 rfl (lv_at hl 3 rfl) ?_
          obtain ⟨hc1, hf⟩ := ck_some hf
          refine va_iald hx hb hE.1 hP 2 0 rfl rfl (ix_in hc1) dX4_ofYear_26 ?_
          refine lv_iload_n hx hb dX4_ofYear_27 rfl (lv_at hl 1 rfl) ?_
          refine lv_icmp_ne (tgt := 59) hx hb dX4_ofYear_28 (by decide) (fun hc2 => ?_) (fun hc2 => ?_)
          · have hf := if_f hf hc2
            refine lv_iinc (v := (v3_4 + 1)) (lv' := [(3, .int (v3_4 + 1)), (0, .ref a_rain), (1, .int v1), (2, .int v2_18), (4, .int v4_18)]) hx hb dX4_ofYear_59 hl (k := 3) rfl (ii_p1 _) (by decide) rfl (fun ls hl => ?_)
            refine lv_goto (tgt := 4) hx hb dX4_ofYear_62 (by decide) ?_
            exact ih4 v2_18 (v3_4 + 1) hf _ _ _ ⟨hP, hD⟩ hS (lv_sub hl [1, 2, 3, 0] rfl)
          · have hf := if_t hf hc2
            refine lv_iload hx hb dX4_ofYear_31 (lv_at hl 4 rfl) ?_
            refine lv_aload_n hx hb dX4_ofYear_33 rfl (lv_at hl 0 rfl) ?_
            refine va_get (D := D) (ci := 4) (v := .ref a_house) (C := RX4) (T := TX4) (N := 4) hx hb hts hiX4_ofYear_4 hown hE.1 hP 0 rfl rfl 0 (by decide) fL15 (fun _ h9 => h9) rfl dX4_ofYear_34 ?_
            refine va_getN (D := D) (ci := 2) (v := .int house_pans) (C := RX2) (T := TX2) (N := 8) hx hb hts hiX4_ofYear_2 hown hE.1 hP 1 rfl rfl 0 (by decide) fL26 (fun _ h9 => h9) rfl dX4_ofYear_37 ?_
            refine lv_icmp_ge (tgt := 59) hx hb dX4_ofYear_40 (by decide) (fun hc3 => ?_) (fun hc3 => ?_)
            · have hf := if_t hf hc3
              refine lv_iinc (v := (v3_4 + 1)) (lv' := [(3, .int (v3_4 + 1)), (0, .ref a_rain), (1, .int v1), (2, .int v2_18), (4, .int v4_18)]) hx hb dX4_ofYear_59 hl (k := 3) rfl (ii_p1 _) (by decide) rfl (fun ls hl => ?_)
              refine lv_goto (tgt := 4) hx hb dX4_ofYear_62 (by decide) ?_
              exact ih4 v2_18 (v3_4 + 1) hf _ _ _ ⟨hP, hD⟩ hS (lv_sub hl [1, 2, 3, 0] rfl)
            · have hf := if_f hf hc3
              refine lv_iload_n hx hb dX4_ofYear_43 rfl (lv_at hl 2 rfl) ?_
              refine lv_aload_n hx hb dX4_ofYear_44 rfl (lv_at hl 0 rfl) ?_
              refine lv_iload hx hb dX4_ofYear_45 (lv_at hl 4 rfl) ?_
              refine lv_iload_n hx hb dX4_ofYear_47 rfl (lv_at hl 3 rfl) ?_
              obtain ⟨u1, hu1, hf⟩ := bd_some hf
              refine cl_iV (As := [.int v4_18, .int v3_4]) (rest := [.int v2_18]) ⟨hx, hb, hml, hown, hts⟩ (c_X4_amount l D cI cZ cR a_rain a_rain_spoons a_house rain_springs rain_lost rain_spoons v4_18 v3_4 u1 hu1) (cw_X4_ofYear_X4_amount_36 hts) hE hP hD hS hA [0, 3] rfl rfl [a_rain, a_rain_spoons] rfl rfl 0 4 rfl rfl rfl hl.1 rfl (Nat.le_of_ble_eq_true rfl) dX4_ofYear_48 ⟨Nat.zero_le _, Nat.zero_le _⟩ (fun H locs hP hD hS => ?_)
              have hPD : PD D A [(a_rain, .inr (4, [.ref a_house, .ref a_rain_spoons, .int rain_springs, .int rain_lost])), (a_house, .inr (2, [.int house_pans, .int house_least, .int house_shelf, .ref a_house_years, .ref a_house_spoons, .ref a_house_shrinks, .ref a_house_sorts, .ref a_house_byAge])), (a_house_years, .inl (cI, 7, .inl house_years)), (a_rain_spoons, .inl (cI, 49, .inl rain_spoons))] H := ⟨hP, hD⟩
              obtain ⟨hP, hD⟩ := hPD
              refine lv_iadd hx hb dX4_ofYear_51 ?_
              refine lv_istore_n (lv' := [(2, .int (v2_18 + u1)), (0, .ref a_rain), (1, .int v1), (3, .int v3_4), (4, .int v4_18)]) hx hb dX4_ofYear_52 rfl hl (by decide) rfl (fun ls hl => ?_)
              refine lv_iinc (v := (v4_18 + 1)) (lv' := [(4, .int (v4_18 + 1)), (2, .int (v2_18 + u1)), (0, .ref a_rain), (1, .int v1), (3, .int v3_4)]) hx hb dX4_ofYear_53 hl (k := 4) rfl (ii_p1 _) (by decide) rfl (fun ls hl => ?_)
              refine lv_goto (tgt := 18) hx hb dX4_ofYear_56 (by decide) ?_
              exact ih18 (v2_18 + u1) (v4_18 + 1) hf _ _ _ ⟨hP, hD⟩ hS (lv_sub hl [2, 3, 1, 4, 0] rfl)
      refine lv_iload_n hx hb dX4_ofYear_4 rfl (lv_at hl 3 rfl) ?_
      refine lv_aload_n hx hb dX4_ofYear_5 rfl (lv_at hl 0 rfl) ?_
      refine va_get (D := D) (ci := 4) (v := .ref a_house) (C := RX4) (T := TX4) (N := 4) hx hb hts hiX4_ofYear_4 hown hE.1 hP 0 rfl rfl 0 (by decide) fL15 (fun _ h9 => h9) rfl dX4_ofYear_6 ?_
      refine va_getN (D := D) (ci := 2) (v := .int house_pans) (C := RX2) (T := TX2) (N := 8) hx hb hts hiX4_ofYear_2 hown hE.1 hP 1 rfl rfl 0 (by decide) fL26 (fun _ h9 => h9) rfl dX4_ofYear_9 ?_
      refine lv_icmp_ge (tgt := 65) hx hb dX4_ofYear_12 (by decide) (fun hc4 => ?_) (fun hc4 => ?_)
      · have hf := if_t hf hc4
        refine lv_iload_n hx hb dX4_ofYear_65 rfl (lv_at hl 2 rfl) ?_
        have he := Option.some.inj hf
        subst he
        exact hret _ _ _ _ dX4_ofYear_66 rfl hP hD hS
      · have hf := if_f hf hc4
        refine lv_iconst (v := 0) hx hb dX4_ofYear_15 (by decide) ?_
        refine lv_istore (lv' := [(4, .int 0), (0, .ref a_rain), (1, .int v1), (2, .int v2_4), (3, .int v3_4)]) hx hb dX4_ofYear_16 hl (by decide) rfl (fun ls hl => ?_)
        exact L18  FU v2_4 0 hf _ _ _ ⟨hP, hD⟩ hS (lv_sub hl [1, 2, 3, 4, 0] rfl)
  refine lv_iconst (v := 0) hx hb dX4_ofYear_0 (by decide) ?_
  refine lv_istore_n (lv' := [(2, .int 0), (0, .ref a_rain), (1, .int v1)]) hx hb dX4_ofYear_1 rfl hl (by decide) rfl (fun ls hl => ?_)
  refine lv_iconst (v := 0) hx hb dX4_ofYear_2 (by decide) ?_
  refine lv_istore_n (lv' := [(3, .int 0), (2, .int 0), (0, .ref a_rain), (1, .int v1)]) hx hb dX4_ofYear_3 rfl hl (by decide) rfl (fun ls hl => ?_)
  exact L4  FU 0 0 hf _ _ _ ⟨hP, hD⟩ hS (lv_sub hl [2, 3, 1, 0] rfl)
abbrev rmX4_wettest : Room := { frames := 3, cells := 0, slots := 0, locals := 67 }
theorem hiX4_wettest_2 : ∀ w ∈ wsX20, w ∈ wsX4_wettest := fun w h => (goodIn_r (big := wsX4_wettest) wsX20 [19, 20, 21, 22, 23, 24, 25, 26] rfl (by decide +kernel) w h).1
theorem hiX4_wettest_4 : ∀ w ∈ wsX40, w ∈ wsX4_wettest := fun w h => (goodIn_r (big := wsX4_wettest) wsX40 [15, 16, 17, 18] rfl (by decide +kernel) w h).1
theorem cw_X4_wettest_X4_ofYear_49 {s : State} {args : Array Value} (hts : ∀ x ∈ wsX4_wettest, x.before args s = true) : CallW rmX4_wettest s args RX4 RX4 49 yX4_ofYear cX4_ofYear 5 (some .int) wsX4_ofYear rmX4_ofYear 0 0 1 := cwV 1 hts gX4_wettest_X4_ofYear rfl rfl rfl (by decide +kernel) ⟨Nat.le_of_ble_eq_true rfl, Nat.le_of_ble_eq_true rfl⟩
set_option maxRecDepth 100000 in
set_option maxHeartbeats 4000000 in
theorem c_X4_wettest (l : Launch) (D : va_G) (cI cZ cR : ClassId) (a_rain : Nat) (a_house : Nat) (a_house_byAge : Nat) (a_house_years : Nat) (a_rain_spoons : Nat) (a_house_spoons : Nat) (a_house_shrinks : Nat) (a_house_sorts : Nat) (rain_springs : Int32) (rain_lost : Int32) (house_pans : Int32) (house_least : Int32) (house_shelf : Int32) (house_byAge : Nat → Int32) (house_years : Nat → Int32) (rain_spoons : Nat → Int32) (out : Int32) (hf : f_X4_wettest house_pans house_byAge house_years rain_spoons = some out) : Ci l yX4_wettest wsX4_wettest rmX4_wettest D cI cZ cR [.ref a_rain] [(a_rain, .inr (4, [.ref a_house, .ref a_rain_spoons, .int rain_springs, .int rain_lost])), (a_house, .inr (2, [.int house_pans, .int house_least, .int house_shelf, .ref a_house_years, .ref a_house_spoons, .ref a_house_shrinks, .ref a_house_sorts, .ref a_house_byAge])), (a_house_byAge, .inl (cI, 7, .inl house_byAge)), (a_house_years, .inl (cI, 7, .inl house_years)), (a_rain_spoons, .inl (cI, 49, .inl rain_spoons))] out [(a_rain, .inr (4, [.ref a_house, .ref a_rain_spoons, .int rain_springs, .int rain_lost])), (a_house, .inr (2, [.int house_pans, .int house_least, .int house_shelf, .ref a_house_years, .ref a_house_spoons, .ref a_house_shrinks, .ref a_house_sorts, .ref a_house_byAge])), (a_house_byAge, .inl (cI, 7, .inl house_byAge)), (a_house_years, .inl (cI, 7, .inl house_years)), (a_rain_spoons, .inl (cI, 49, .inl rain_spoons))] := by
  refine ent_i (cc := cX4_wettest) (maxL := 6) .int (by decide) rfl (Nat.le_of_ble_eq_true rfl) ?_
  intro p e s m below meth c A Q hx hb hml hown hts hE hA hP hD hS hret ls hl
  have hown : s.vm.findClass RX4 = some m.cls := hown
  have hl : lv_has ls 6 [(0, .ref a_rain)] := hl
  have fL15 := hts (.fieldLink RX4 15 "RainShelves$Rain" "house" "LRainShelves$House;") (List.mem_of_getElem? (i := 1) rfl)
  have fL26 : (Cond.fieldLinkNest RX4 26 "RainShelves$House" "pans" "I" "RainShelves").before ([.ref a_rain] : List Value).toArray s = true := hE.nf 1 rfl
  have fL43 : (Cond.fieldLinkNest RX4 43 "RainShelves$House" "years" "[I" "RainShelves").before ([.ref a_rain] : List Value).toArray s = true := hE.nf 11 rfl
  have fL46 : (Cond.fieldLinkNest RX4 46 "RainShelves$House" "byAge" "[I" "RainShelves").before ([.ref a_rain] : List Value).toArray s = true := hE.nf 16 rfl
  unfold f_X4_wettest at hf
  have L7 : ∀ (n7 : Nat) (v1_7 : Int32) (v2_7 : Int32) (v3_7 : Int32), f_X4_wettest_L7 house_pans house_byAge house_years rain_spoons n7 v1_7 v2_7 v3_7 = some out → ∀ (H : Heap) (locs : List Loc) (ls : Array Slot), PD D A [(a_rain, .inr (4, [.ref a_house, .ref a_rain_spoons, .int rain_springs, .int rain_lost])), (a_house, .inr (2, [.int house_pans, .int house_least, .int house_shelf, .ref a_house_years, .ref a_house_spoons, .ref a_house_shrinks, .ref a_house_sorts, .ref a_house_byAge])), (a_house_byAge, .inl (cI, 7, .inl house_byAge)), (a_house_years, .inl (cI, 7, .inl house_years)), (a_rain_spoons, .inl (cI, 49, .inl rain_spoons))] H → va_S A s.heap H locs → lv_has ls 6 [(0, .ref a_rain), (1, .int v1_7), (2, .int v2_7), (3, .int v3_7)] → W p l e rmX4_wettest s m ([.ref a_rain] : List Value).toArray below meth c H locs 0 0 Q (F0 m 7 ls []) := by
    intro  n7
    induction n7 with
    | zero => intro v1_7 v2_7 v3_7 hf; cases hf
    | succ n7 ih7 =>
      intro v1_7 v2_7 v3_7 hf H locs ls hPD hS hl
      obtain ⟨hP, hD⟩ := hPD
      have hf : f_X4_wettest_B7 house_pans house_byAge house_years rain_spoons (f_X4_wettest_L7 house_pans house_byAge house_years rain_spoons n7) v1_7 v2_7 v3_7 = some out := hf
      unfold f_X4_wettest_B7 at hf
      refine lv_iload_n hx hb dX4_wettest_7 rfl (lv_at hl 3 rfl) ?_
      refine lv_aload_n hx hb dX4_wettest_8 rfl (lv_at hl 0 rfl) ?_
      refine va_get (D := D) (ci := 4) (v := .ref a_house) (C := RX4) (T := TX4) (N := 4) hx hb hts hiX4_wettest_4 hown hE.1 hP 0 rfl rfl 0 (by decide) fL15 (fun _ h9 => h9) rfl dX4_wettest_9 ?_
      refine va_getN (D := D) (ci := 2) (v := .int house_pans) (C := RX2) (T := TX2) (N := 8) hx hb hts hiX4_wettest_2 hown hE.1 hP 1 rfl rfl 0 (by decide) fL26 (fun _ h9 => h9) rfl dX4_wettest_12 ?_
      refine lv_icmp_ge (tgt := 63) hx hb dX4_wettest_15 (by decide) (fun hc1 => ?_) (fun hc1 => ?_)
      · have hf := if_t hf hc1
        refine lv_iload_n hx hb dX4_wettest_63 rfl (lv_at hl 1 rfl) ?_
        have he := Option.some.inj hf
        subst he
        exact hret _ _ _ _ dX4_wettest_64 rfl hP hD hS
      · have hf := if_f hf hc1
        refine lv_aload_n hx hb dX4_wettest_18 rfl (lv_at hl 0 rfl) ?_
        refine va_get (D := D) (ci := 4) (v := .ref a_house) (C := RX4) (T := TX4) (N := 4) hx hb hts hiX4_wettest_4 hown hE.1 hP 0 rfl rfl 0 (by decide) fL15 (fun _ h9 => h9) rfl dX4_wettest_19 ?_
        refine va_getN (D := D) (ci := 2) (v := .ref a_house_years) (C := RX2) (T := TX2) (N := 8) hx hb hts hiX4_wettest_2 hown hE.1 hP 1 rfl rfl 3 (by decide) fL43 (fun _ h9 => h9) rfl dX4_wettest_22 ?_
        refine lv_aload_n hx hb dX4_wettest_25 rfl (lv_at hl 0 rfl) ?_
        refine va_get (D := D) (ci := 4) (v := .ref a_house) (C := RX4) (T := TX4) (N := 4) hx hb hts hiX4_wettest_4 hown hE.1 hP 0 rfl rfl 0 (by decide) fL15 (fun _ h9 => h9) rfl dX4_wettest_26 ?_
        refine va_getN (D := D) (ci := 2) (v := .ref a_house_byAge) (C := RX2) (T := TX2) (N := 8) hx hb hts hiX4_wettest_2 hown hE.1 hP 1 rfl rfl 7 (by decide) fL46 (fun _ h9 => h9) rfl dX4_wettest_29 ?_
        refine lv_iload_n hx hb dX4_wettest_32 rfl (lv_at hl 3 rfl) ?_
        obtain ⟨hc2, hf⟩ := ck_some hf
        refine va_iald hx hb hE.1 hP 2 0 rfl rfl (ix_in hc2) dX4_wettest_33 ?_
        obtain ⟨hc3, hf⟩ := ck_some hf
        refine va_iald hx hb hE.1 hP 3 0 rfl rfl (ix_in hc3) dX4_wettest_34 ?_
        refine lv_istore (lv' := [(4, .int (house_years (house_byAge v3_7.toNatClampNeg).toNatClampNeg)), (0, .ref a_rain), (1, .int v1_7), (2, .int v2_7), (3, .int v3_7)]) hx hb dX4_wettest_35 hl (by decide) rfl (fun ls hl => ?_)
        refine lv_aload_n hx hb dX4_wettest_37 rfl (lv_at hl 1 rfl) ?_
        refine lv_iload hx hb dX4_wettest_38 (lv_at hl 0 rfl) ?_
        obtain ⟨u1, hu1, hf⟩ := bd_some hf
        refine cl_iV (As := [.int (house_years (house_byAge v3_7.toNatClampNeg).toNatClampNeg)]) (rest := []) ⟨hx, hb, hml, hown, hts⟩ (c_X4_ofYear l D cI cZ cR a_rain a_house a_house_years a_rain_spoons a_house_spoons a_house_shrinks a_house_sorts a_house_byAge rain_springs rain_lost house_pans house_least house_shelf house_years rain_spoons (house_years (house_byAge v3_7.toNatClampNeg).toNatClampNeg) u1 hu1) (cw_X4_wettest_X4_ofYear_49 hts) hE hP hD hS hA [0, 1, 3, 4] rfl rfl [a_rain, a_house, a_house_years, a_rain_spoons] rfl rfl 0 4 rfl rfl rfl hl.1 rfl (Nat.le_of_ble_eq_true rfl) dX4_wettest_40 ⟨Nat.zero_le _, Nat.zero_le _⟩ (fun H locs hP hD hS => ?_)
        have hPD : PD D A [(a_rain, .inr (4, [.ref a_house, .ref a_rain_spoons, .int rain_springs, .int rain_lost])), (a_house, .inr (2, [.int house_pans, .int house_least, .int house_shelf, .ref a_house_years, .ref a_house_spoons, .ref a_house_shrinks, .ref a_house_sorts, .ref a_house_byAge])), (a_house_byAge, .inl (cI, 7, .inl house_byAge)), (a_house_years, .inl (cI, 7, .inl house_years)), (a_rain_spoons, .inl (cI, 49, .inl rain_spoons))] H := ⟨hP, hD⟩
        obtain ⟨hP, hD⟩ := hPD
        refine lv_istore (lv' := [(5, .int u1), (4, .int (house_years (house_byAge v3_7.toNatClampNeg).toNatClampNeg)), (0, .ref a_rain), (1, .int v1_7), (2, .int v2_7), (3, .int v3_7)]) hx hb dX4_wettest_43 hl (by decide) rfl (fun ls hl => ?_)
        refine lv_iload hx hb dX4_wettest_45 (lv_at hl 0 rfl) ?_
        refine lv_iload_n hx hb dX4_wettest_47 rfl (lv_at hl 4 rfl) ?_
        refine lv_icmp_le (tgt := 57) hx hb dX4_wettest_48 (by decide) (fun hc4 => ?_) (fun hc4 => ?_)
        · have hf := if_t hf hc4
          refine lv_iinc (v := (v3_7 + 1)) (lv' := [(3, .int (v3_7 + 1)), (5, .int u1), (4, .int (house_years (house_byAge v3_7.toNatClampNeg).toNatClampNeg)), (0, .ref a_rain), (1, .int v1_7), (2, .int v2_7)]) hx hb dX4_wettest_57 hl (k := 5) rfl (ii_p1 _) (by decide) rfl (fun ls hl => ?_)
          refine lv_goto (tgt := 7) hx hb dX4_wettest_60 (by decide) ?_
          exact ih7 v1_7 v2_7 (v3_7 + 1) hf _ _ _ ⟨hP, hD⟩ hS (lv_sub hl [3, 4, 5, 0] rfl)
        · have hf := if_f hf hc4
          refine lv_iload hx hb dX4_wettest_51 (lv_at hl 0 rfl) ?_
          refine lv_istore_n (lv' := [(2, .int u1), (5, .int u1), (4, .int (house_years (house_byAge v3_7.toNatClampNeg).toNatClampNeg)), (0, .ref a_rain), (1, .int v1_7), (3, .int v3_7)]) hx hb dX4_wettest_53 rfl hl (by decide) rfl (fun ls hl => ?_)
          refine lv_iload hx hb dX4_wettest_54 (lv_at hl 2 rfl) ?_
          refine lv_istore_n (lv' := [(1, .int (house_years (house_byAge v3_7.toNatClampNeg).toNatClampNeg)), (2, .int u1), (5, .int u1), (4, .int (house_years (house_byAge v3_7.toNatClampNeg).toNatClampNeg)), (0, .ref a_rain), (3, .int v3_7)]) hx hb dX4_wettest_56 rfl hl (by decide) rfl (fun ls hl => ?_)
          refine lv_iinc (v := (v3_7 + 1)) (lv' := [(3, .int (v3_7 + 1)), (1, .int (house_years (house_byAge v3_7.toNatClampNeg).toNatClampNeg)), (2, .int u1), (5, .int u1), (4, .int (house_years (house_byAge v3_7.toNatClampNeg).toNatClampNeg)), (0, .ref a_rain)]) hx hb dX4_wettest_57 hl (k := 5) rfl (ii_p1 _) (by decide) rfl (fun ls hl => ?_)
          refine lv_goto (tgt := 7) hx hb dX4_wettest_60 (by decide) ?_
          exact ih7 (house_years (house_byAge v3_7.toNatClampNeg).toNatClampNeg) u1 (v3_7 + 1) hf _ _ _ ⟨hP, hD⟩ hS (lv_sub hl [5, 1, 2, 0] rfl)
  refine lv_bipush (v := (-9)) hx hb dX4_wettest_0 (by decide) ?_
  refine lv_istore_n (lv' := [(1, .int (-9)), (0, .ref a_rain)]) hx hb dX4_wettest_2 rfl hl (by decide) rfl (fun ls hl => ?_)
  refine lv_iconst (v := 0) hx hb dX4_wettest_3 (by decide) ?_
  refine lv_istore_n (lv' := [(2, .int 0), (1, .int (-9)), (0, .ref a_rain)]) hx hb dX4_wettest_4 rfl hl (by decide) rfl (fun ls hl => ?_)
  refine lv_iconst (v := 0) hx hb dX4_wettest_5 (by decide) ?_
  refine lv_istore_n (lv' := [(3, .int 0), (2, .int 0), (1, .int (-9)), (0, .ref a_rain)]) hx hb dX4_wettest_6 rfl hl (by decide) rfl (fun ls hl => ?_)
  exact L7  FU (-9) 0 0 hf _ _ _ ⟨hP, hD⟩ hS (lv_sub hl [3, 2, 1, 0] rfl)
abbrev rmX4_take : Room := { frames := 2, cells := 0, slots := 0, locals := 43 }
theorem hiX4_take_2 : ∀ w ∈ wsX20, w ∈ wsX4_take := fun w h => (goodIn_r (big := wsX4_take) wsX20 [20, 21, 22, 23, 24, 25, 26, 27] rfl (by decide +kernel) w h).1
theorem hiX4_take_4 : ∀ w ∈ wsX40, w ∈ wsX4_take := fun w h => (goodIn_r (big := wsX4_take) wsX40 [16, 17, 18, 19] rfl (by decide +kernel) w h).1
theorem cw_X4_take_X4_amount_36 {s : State} {args : Array Value} (hts : ∀ x ∈ wsX4_take, x.before args s = true) : CallW rmX4_take s args RX4 RX4 36 yX4_amount cX4_amount 3 (some .int) wsX4_amount rmX4_amount 0 0 2 := cwV 2 hts gX4_take_X4_amount rfl rfl rfl (by decide +kernel) ⟨Nat.le_of_ble_eq_true rfl, Nat.le_of_ble_eq_true rfl⟩
theorem cw_X4_take_X4_at_31 {s : State} {args : Array Value} (hts : ∀ x ∈ wsX4_take, x.before args s = true) : CallB rmX4_take s args RX4 31 yX4_at cX4_at 2 (some .int) wsX4_at rmX4_at 0 0 2 ∧ (Cond.static yX4_at).before args s = true := va_cwS 2 hts gX4_take_X4_at rfl rfl rfl (by decide +kernel) ⟨Nat.le_of_ble_eq_true rfl, Nat.le_of_ble_eq_true rfl⟩
set_option maxRecDepth 100000 in
set_option maxHeartbeats 4000000 in
theorem c_X4_take (l : Launch) (D : va_G) (cI cZ cR : ClassId) (a_rain : Nat) (a_house : Nat) (a_house_byAge : Nat) (a_rain_spoons : Nat) (a_house_years : Nat) (a_house_spoons : Nat) (a_house_shrinks : Nat) (a_house_sorts : Nat) (rain_springs : Int32) (rain_lost : Int32) (house_pans : Int32) (house_least : Int32) (house_shelf : Int32) (house_byAge : Nat → Int32) (rain_spoons : Nat → Int32) (v1 : Int32) (v2 : Int32) (v3 : Int32) (out : Int32 × Int32 × (Nat → Int32)) (hf : f_X4_take rain_lost house_pans house_byAge rain_spoons v1 v2 v3 = some out) : Ci l yX4_take wsX4_take rmX4_take D cI cZ cR [.ref a_rain, .int v1, .int v2, .int v3] [(a_rain, .inr (4, [.ref a_house, .ref a_rain_spoons, .int rain_springs, .int rain_lost])), (a_house, .inr (2, [.int house_pans, .int house_least, .int house_shelf, .ref a_house_years, .ref a_house_spoons, .ref a_house_shrinks, .ref a_house_sorts, .ref a_house_byAge])), (a_house_byAge, .inl (cI, 7, .inl house_byAge)), (a_rain_spoons, .inl (cI, 49, .inl rain_spoons))] out.1 [(a_rain, .inr (4, [.ref a_house, .ref a_rain_spoons, .int rain_springs, .int out.2.1])), (a_house, .inr (2, [.int house_pans, .int house_least, .int house_shelf, .ref a_house_years, .ref a_house_spoons, .ref a_house_shrinks, .ref a_house_sorts, .ref a_house_byAge])), (a_house_byAge, .inl (cI, 7, .inl house_byAge)), (a_rain_spoons, .inl (cI, 49, .inl out.2.2))] := by
  refine ent_i (cc := cX4_take) (maxL := 8) .int (by decide) rfl (Nat.le_of_ble_eq_true rfl) ?_
  intro p e s m below meth c A Q hx hb hml hown hts hE hA hP hD hS hret ls hl
  have hown : s.vm.findClass RX4 = some m.cls := hown
  have hl : lv_has ls 8 [(0, .ref a_rain), (1, .int v1), (2, .int v2), (3, .int v3)] := hl
  have fL9 := hts (.fieldLink RX4 9 "RainShelves$Rain" "spoons" "[I") (List.mem_of_getElem? (i := 6) rfl)
  have fL15 := hts (.fieldLink RX4 15 "RainShelves$Rain" "house" "LRainShelves$House;") (List.mem_of_getElem? (i := 1) rfl)
  have fL23 := hts (.fieldLink RX4 23 "RainShelves$Rain" "lost" "I") (List.mem_of_getElem? (i := 7) rfl)
  have fL26 : (Cond.fieldLinkNest RX4 26 "RainShelves$House" "pans" "I" "RainShelves").before ([.ref a_rain, .int v1, .int v2, .int v3] : List Value).toArray s = true := hE.nf 1 rfl
  have fL46 : (Cond.fieldLinkNest RX4 46 "RainShelves$House" "byAge" "[I" "RainShelves").before ([.ref a_rain, .int v1, .int v2, .int v3] : List Value).toArray s = true := hE.nf 16 rfl
  have mBmin := hts (.static Lib.Math.min.name) (List.mem_of_getElem? (i := 3) rfl)
  have mDmin := hts (.code Lib.Math.min.name Lib.Math.min.code 2 (some .int)) (List.mem_of_getElem? (i := 5) rfl)
  have mC := hts (.initialized "java/lang/Math") (List.mem_of_getElem? (i := 4) rfl)
  have mA52 := hts (.methodLink RX4 52 Lib.Math.min.name) (List.mem_of_getElem? (i := 2) rfl)
  unfold f_X4_take at hf
  have L6 : ∀ (n6 : Nat) (v4_6 : Int32) (v5_6 : Int32) (rain_lost_6 : Int32) (rain_spoons_6 : Nat → Int32), f_X4_take_L6 house_pans house_byAge v1 v2 v3 n6 v4_6 v5_6 rain_lost_6 rain_spoons_6 = some out → ∀ (H : Heap) (locs : List Loc) (ls : Array Slot), PD D A [(a_rain, .inr (4, [.ref a_house, .ref a_rain_spoons, .int rain_springs, .int rain_lost_6])), (a_house, .inr (2, [.int house_pans, .int house_least, .int house_shelf, .ref a_house_years, .ref a_house_spoons, .ref a_house_shrinks, .ref a_house_sorts, .ref a_house_byAge])), (a_house_byAge, .inl (cI, 7, .inl house_byAge)), (a_rain_spoons, .inl (cI, 49, .inl rain_spoons_6))] H → va_S A s.heap H locs → lv_has ls 8 [(0, .ref a_rain), (1, .int v1), (2, .int v2), (3, .int v3), (4, .int v4_6), (5, .int v5_6)] → W p l e rmX4_take s m ([.ref a_rain, .int v1, .int v2, .int v3] : List Value).toArray below meth c H locs 0 0 Q (F0 m 6 ls []) := by
    intro  n6
    induction n6 with
    | zero => intro v4_6 v5_6 rain_lost_6 rain_spoons_6 hf; cases hf
    | succ n6 ih6 =>
      intro v4_6 v5_6 rain_lost_6 rain_spoons_6 hf H locs ls hPD hS hl
      obtain ⟨hP, hD⟩ := hPD
      have hf : f_X4_take_B6 house_pans house_byAge v1 v2 v3 (f_X4_take_L6 house_pans house_byAge v1 v2 v3 n6) v4_6 v5_6 rain_lost_6 rain_spoons_6 = some out := hf
      unfold f_X4_take_B6 at hf
      have J95 : ∀ (v7_95 : Int32) (rain_lost_95 : Int32) (rain_spoons_95 : Nat → Int32), f_X4_take_J95 v4_6 v5_6 (f_X4_take_L6 house_pans house_byAge v1 v2 v3 n6) v7_95 rain_lost_95 rain_spoons_95 = some out → ∀ (H : Heap) (locs : List Loc) (ls : Array Slot), PD D A [(a_rain, .inr (4, [.ref a_house, .ref a_rain_spoons, .int rain_springs, .int rain_lost_95])), (a_house, .inr (2, [.int house_pans, .int house_least, .int house_shelf, .ref a_house_years, .ref a_house_spoons, .ref a_house_shrinks, .ref a_house_sorts, .ref a_house_byAge])), (a_house_byAge, .inl (cI, 7, .inl house_byAge)), (a_rain_spoons, .inl (cI, 49, .inl rain_spoons_95))] H → va_S A s.heap H locs → lv_has ls 8 [(0, .ref a_rain), (1, .int v1), (2, .int v2), (3, .int v3), (4, .int v4_6), (5, .int v5_6), (7, .int v7_95)] → W p l e rmX4_take s m ([.ref a_rain, .int v1, .int v2, .int v3] : List Value).toArray below meth c H locs 0 0 Q (F0 m 95 ls []) := by
        intro v7_95 rain_lost_95 rain_spoons_95 hf H locs ls hPD hS hl
        obtain ⟨hP, hD⟩ := hPD
        unfold f_X4_take_J95 at hf
        refine lv_iload hx hb dX4_take_95 (lv_at hl 4 rfl) ?_
        refine lv_iload hx hb dX4_take_97 (lv_at hl 6 rfl) ?_
        refine lv_isub hx hb dX4_take_99 ?_
        refine lv_istore (lv' := [(4, .int (v4_6 - v7_95)), (0, .ref a_rain), (1, .int v1), (2, .int v2), (3, .int v3), (5, .int v5_6), (7, .int v7_95)]) hx hb dX4_take_100 hl (by decide) rfl (fun ls hl => ?_)
        refine lv_iinc (v := (v5_6 + 1)) (lv' := [(5, .int (v5_6 + 1)), (4, .int (v4_6 - v7_95)), (0, .ref a_rain), (1, .int v1), (2, .int v2), (3, .int v3), (7, .int v7_95)]) hx hb dX4_take_102 hl (k := 5) rfl (ii_p1 _) (by decide) rfl (fun ls hl => ?_)
        refine lv_goto (tgt := 6) hx hb dX4_take_105 (by decide) ?_
        exact ih6 (v4_6 - v7_95) (v5_6 + 1) rain_lost_95 rain_spoons_95 hf _ _ _ ⟨hP, hD⟩ hS (lv_sub hl [2, 3, 4, 5, 1, 0] rfl)
      refine lv_iload hx hb dX4_take_6 (lv_at hl 5 rfl) ?_
      refine lv_aload_n hx hb dX4_take_8 rfl (lv_at hl 0 rfl) ?_
      refine va_get (D := D) (ci := 4) (v := .ref a_house) (C := RX4) (T := TX4) (N := 4) hx hb hts hiX4_take_4 hown hE.1 hP 0 rfl rfl 0 (by decide) fL15 (fun _ h9 => h9) rfl dX4_take_9 ?_
      refine va_getN (D := D) (ci := 2) (v := .int house_pans) (C := RX2) (T := TX2) (N := 8) hx hb hts hiX4_take_2 hown hE.1 hP 1 rfl rfl 0 (by decide) fL26 (fun _ h9 => h9) rfl dX4_take_12 ?_
      refine lv_icmp_ge (tgt := 108) hx hb dX4_take_15 (by decide) (fun hc1 => ?_) (fun hc1 => ?_)
      · have hf := if_t hf hc1
        refine lv_iload_n hx hb dX4_take_108 rfl (lv_at hl 2 rfl) ?_
        refine lv_iload hx hb dX4_take_109 (lv_at hl 4 rfl) ?_
        refine lv_isub hx hb dX4_take_111 ?_
        have he := Option.some.inj hf
        subst he
        exact hret _ _ _ _ dX4_take_112 rfl hP hD hS
      · have hf := if_f hf hc1
        refine lv_aload_n hx hb dX4_take_18 rfl (lv_at hl 0 rfl) ?_
        refine va_get (D := D) (ci := 4) (v := .ref a_house) (C := RX4) (T := TX4) (N := 4) hx hb hts hiX4_take_4 hown hE.1 hP 0 rfl rfl 0 (by decide) fL15 (fun _ h9 => h9) rfl dX4_take_19 ?_
        refine va_getN (D := D) (ci := 2) (v := .ref a_house_byAge) (C := RX2) (T := TX2) (N := 8) hx hb hts hiX4_take_2 hown hE.1 hP 1 rfl rfl 7 (by decide) fL46 (fun _ h9 => h9) rfl dX4_take_22 ?_
        refine lv_iload hx hb dX4_take_25 (lv_at hl 5 rfl) ?_
        obtain ⟨hc2, hf⟩ := ck_some hf
        refine va_iald hx hb hE.1 hP 2 0 rfl rfl (ix_in hc2) dX4_take_27 ?_
        refine lv_istore (lv' := [(6, .int (house_byAge v5_6.toNatClampNeg)), (0, .ref a_rain), (1, .int v1), (2, .int v2), (3, .int v3), (4, .int v4_6), (5, .int v5_6)]) hx hb dX4_take_28 hl (by decide) rfl (fun ls hl => ?_)
        refine lv_iload hx hb dX4_take_30 (lv_at hl 5 rfl) ?_
        refine lv_aload_n hx hb dX4_take_32 rfl (lv_at hl 1 rfl) ?_
        refine lv_iload_n hx hb dX4_take_33 rfl (lv_at hl 2 rfl) ?_
        refine lv_iload hx hb dX4_take_34 (lv_at hl 0 rfl) ?_
        obtain ⟨u1, hu1, hf⟩ := bd_some hf
        refine cl_iV (As := [.int v1, .int (house_byAge v5_6.toNatClampNeg)]) (rest := [.int v4_6]) ⟨hx, hb, hml, hown, hts⟩ (c_X4_amount l D cI cZ cR a_rain a_rain_spoons a_house rain_springs rain_lost_6 rain_spoons_6 v1 (house_byAge v5_6.toNatClampNeg) u1 hu1) (cw_X4_take_X4_amount_36 hts) hE hP hD hS hA [0, 3] rfl rfl [a_rain, a_rain_spoons] rfl rfl 0 4 rfl rfl rfl hl.1 rfl (Nat.le_of_ble_eq_true rfl) dX4_take_36 ⟨Nat.zero_le _, Nat.zero_le _⟩ (fun H locs hP hD hS => ?_)
        have hPD : PD D A [(a_rain, .inr (4, [.ref a_house, .ref a_rain_spoons, .int rain_springs, .int rain_lost_6])), (a_house, .inr (2, [.int house_pans, .int house_least, .int house_shelf, .ref a_house_years, .ref a_house_spoons, .ref a_house_shrinks, .ref a_house_sorts, .ref a_house_byAge])), (a_house_byAge, .inl (cI, 7, .inl house_byAge)), (a_rain_spoons, .inl (cI, 49, .inl rain_spoons_6))] H := ⟨hP, hD⟩
        obtain ⟨hP, hD⟩ := hPD
        refine va_mmin hx hb (hml.trans hl.1.symm) hown mA52 mBmin mC mDmin (Nat.le_of_ble_eq_true rfl) (Nat.le_of_ble_eq_true rfl) (Nat.zero_le _) (Nat.zero_le _) dX4_take_39 ?_
        refine lv_istore (lv' := [(7, .int (if u1 < v4_6 then u1 else v4_6)), (6, .int (house_byAge v5_6.toNatClampNeg)), (0, .ref a_rain), (1, .int v1), (2, .int v2), (3, .int v3), (4, .int v4_6), (5, .int v5_6)]) hx hb dX4_take_42 hl (by decide) rfl (fun ls hl => ?_)
        refine lv_aload_n hx hb dX4_take_44 rfl (lv_at hl 2 rfl) ?_
        refine va_get (D := D) (ci := 4) (v := .ref a_rain_spoons) (C := RX4) (T := TX4) (N := 4) hx hb hts hiX4_take_4 hown hE.1 hP 0 rfl rfl 1 (by decide) fL9 (fun _ h9 => h9) rfl dX4_take_45 ?_
        refine lv_iload_n hx hb dX4_take_48 rfl (lv_at hl 3 rfl) ?_
        refine lv_iload hx hb dX4_take_49 (lv_at hl 1 rfl) ?_
        obtain ⟨u2, hu2, hf⟩ := bd_some hf
        refine cl_iS (As := [.int v1, .int (house_byAge v5_6.toNatClampNeg)]) (rest := [.ref a_rain_spoons]) ⟨hx, hb, hml, hown, hts⟩ (c_X4_at l D cI cZ cR   v1 (house_byAge v5_6.toNatClampNeg) u2 hu2) (cw_X4_take_X4_at_31 hts) hE hP hD hS hA rfl hl.1 rfl (Nat.le_of_ble_eq_true rfl) dX4_take_51 ⟨Nat.zero_le _, Nat.zero_le _⟩ (fun H locs hP hS => ?_)
        refine lv_dup2_11 hx hb dX4_take_54 rfl rfl ?_
        obtain ⟨hc3, hf⟩ := ck_some hf
        refine va_iald hx hb hE.1 hP 3 0 rfl rfl (ix_in hc3) dX4_take_55 ?_
        refine lv_iload hx hb dX4_take_56 (lv_at hl 0 rfl) ?_
        refine lv_isub hx hb dX4_take_58 ?_
        obtain ⟨hc4, hf⟩ := ck_some hf
        refine va_iast hx hb hE.1 hP hD hS 3 0 rfl rfl (ix_in hc4) dX4_take_59 (fun H locs hP hD hS => ?_)
        have hPD : PD D A [(a_rain, .inr (4, [.ref a_house, .ref a_rain_spoons, .int rain_springs, .int rain_lost_6])), (a_house, .inr (2, [.int house_pans, .int house_least, .int house_shelf, .ref a_house_years, .ref a_house_spoons, .ref a_house_shrinks, .ref a_house_sorts, .ref a_house_byAge])), (a_house_byAge, .inl (cI, 7, .inl house_byAge)), (a_rain_spoons, .inl (cI, 49, .inl (upd rain_spoons_6 u2.toNatClampNeg ((rain_spoons_6 u2.toNatClampNeg) - (if u1 < v4_6 then u1 else v4_6)))))] H := ⟨hP, hD⟩
        obtain ⟨hP, hD⟩ := hPD
        refine lv_iload_n hx hb dX4_take_60 rfl (lv_at hl 5 rfl) ?_
        refine lv_iconst (v := (-1)) hx hb dX4_take_61 (by decide) ?_
        refine lv_icmp_ne (tgt := 79) hx hb dX4_take_62 (by decide) (fun hc5 => ?_) (fun hc5 => ?_)
        · have hf := if_f hf hc5
          refine lv_aload_n hx hb dX4_take_79 rfl (lv_at hl 2 rfl) ?_
          refine va_get (D := D) (ci := 4) (v := .ref a_rain_spoons) (C := RX4) (T := TX4) (N := 4) hx hb hts hiX4_take_4 hown hE.1 hP 0 rfl rfl 1 (by decide) fL9 (fun _ h9 => h9) rfl dX4_take_80 ?_
          refine lv_iload_n hx hb dX4_take_83 rfl (lv_at hl 5 rfl) ?_
          refine lv_iload hx hb dX4_take_84 (lv_at hl 1 rfl) ?_
          obtain ⟨u3, hu3, hf⟩ := bd_some hf
          refine cl_iS (As := [.int v3, .int (house_byAge v5_6.toNatClampNeg)]) (rest := [.ref a_rain_spoons]) ⟨hx, hb, hml, hown, hts⟩ (c_X4_at l D cI cZ cR   v3 (house_byAge v5_6.toNatClampNeg) u3 hu3) (cw_X4_take_X4_at_31 hts) hE hP hD hS hA rfl hl.1 rfl (Nat.le_of_ble_eq_true rfl) dX4_take_86 ⟨Nat.zero_le _, Nat.zero_le _⟩ (fun H locs hP hS => ?_)
          refine lv_dup2_11 hx hb dX4_take_89 rfl rfl ?_
          obtain ⟨hc6, hf⟩ := ck_some hf
          refine va_iald hx hb hE.1 hP 3 0 rfl rfl (ix_in hc6) dX4_take_90 ?_
          refine lv_iload hx hb dX4_take_91 (lv_at hl 0 rfl) ?_
          refine lv_iadd hx hb dX4_take_93 ?_
          obtain ⟨hc7, hf⟩ := ck_some hf
          refine va_iast hx hb hE.1 hP hD hS 3 0 rfl rfl (ix_in hc7) dX4_take_94 (fun H locs hP hD hS => ?_)
          have hPD : PD D A [(a_rain, .inr (4, [.ref a_house, .ref a_rain_spoons, .int rain_springs, .int rain_lost_6])), (a_house, .inr (2, [.int house_pans, .int house_least, .int house_shelf, .ref a_house_years, .ref a_house_spoons, .ref a_house_shrinks, .ref a_house_sorts, .ref a_house_byAge])), (a_house_byAge, .inl (cI, 7, .inl house_byAge)), (a_rain_spoons, .inl (cI, 49, .inl (upd (upd rain_spoons_6 u2.toNatClampNeg ((rain_spoons_6 u2.toNatClampNeg) - (if u1 < v4_6 then u1 else v4_6))) u3.toNatClampNeg (((upd rain_spoons_6 u2.toNatClampNeg ((rain_spoons_6 u2.toNatClampNeg) - (if u1 < v4_6 then u1 else v4_6))) u3.toNatClampNeg) + (if u1 < v4_6 then u1 else v4_6)))))] H := ⟨hP, hD⟩
          obtain ⟨hP, hD⟩ := hPD
          exact J95 (if u1 < v4_6 then u1 else v4_6) rain_lost_6 (upd (upd rain_spoons_6 u2.toNatClampNeg ((rain_spoons_6 u2.toNatClampNeg) - (if u1 < v4_6 then u1 else v4_6))) u3.toNatClampNeg (((upd rain_spoons_6 u2.toNatClampNeg ((rain_spoons_6 u2.toNatClampNeg) - (if u1 < v4_6 then u1 else v4_6))) u3.toNatClampNeg) + (if u1 < v4_6 then u1 else v4_6))) hf _ _ _ ⟨hP, hD⟩ hS (lv_sub hl [2, 3, 4, 5, 6, 7, 0] rfl)
        · have hf := if_t hf hc5
          refine lv_aload_n hx hb dX4_take_65 rfl (lv_at hl 2 rfl) ?_
          refine lv_dup hx hb dX4_take_66 rfl ?_
          refine va_get (D := D) (ci := 4) (v := .int rain_lost_6) (C := RX4) (T := TX4) (N := 4) hx hb hts hiX4_take_4 hown hE.1 hP 0 rfl rfl 3 (by decide) fL23 (fun _ h9 => h9) rfl dX4_take_67 ?_
          refine lv_iload hx hb dX4_take_70 (lv_at hl 0 rfl) ?_
          refine lv_iadd hx hb dX4_take_72 ?_
          refine va_put (D := D) (ci := 4) (v := .int (rain_lost_6 + (if u1 < v4_6 then u1 else v4_6))) (ty := .int) (C := RX4) (T := TX4) (N := 4) hx hb hts hiX4_take_4 tyX4 tyX4_ok nmX4 hown hE.1 hP hD hS 0 rfl rfl 3 (by decide) fL23 (fun _ h9 => h9) rfl (tyX4_ok 3 (by decide)) rfl rfl (Nat.le_of_ble_eq_true rfl) dX4_take_73 (fun H locs hP hD hS => ?_)
          have hPD : PD D A [(a_rain, .inr (4, [.ref a_house, .ref a_rain_spoons, .int rain_springs, .int (rain_lost_6 + (if u1 < v4_6 then u1 else v4_6))])), (a_house, .inr (2, [.int house_pans, .int house_least, .int house_shelf, .ref a_house_years, .ref a_house_spoons, .ref a_house_shrinks, .ref a_house_sorts, .ref a_house_byAge])), (a_house_byAge, .inl (cI, 7, .inl house_byAge)), (a_rain_spoons, .inl (cI, 49, .inl (upd rain_spoons_6 u2.toNatClampNeg ((rain_spoons_6 u2.toNatClampNeg) - (if u1 < v4_6 then u1 else v4_6)))))] H := ⟨hP, hD⟩
          obtain ⟨hP, hD⟩ := hPD
          refine lv_goto (tgt := 95) hx hb dX4_take_76 (by decide) ?_
          exact J95 (if u1 < v4_6 then u1 else v4_6) (rain_lost_6 + (if u1 < v4_6 then u1 else v4_6)) (upd rain_spoons_6 u2.toNatClampNeg ((rain_spoons_6 u2.toNatClampNeg) - (if u1 < v4_6 then u1 else v4_6))) hf _ _ _ ⟨hP, hD⟩ hS (lv_sub hl [2, 3, 4, 5, 6, 7, 0] rfl)
  refine lv_iload_n hx hb dX4_take_0 rfl (lv_at hl 2 rfl) ?_
  refine lv_istore (lv' := [(4, .int v2), (0, .ref a_rain), (1, .int v1), (2, .int v2), (3, .int v3)]) hx hb dX4_take_1 hl (by decide) rfl (fun ls hl => ?_)
  refine lv_iconst (v := 0) hx hb dX4_take_3 (by decide) ?_
  refine lv_istore (lv' := [(5, .int 0), (4, .int v2), (0, .ref a_rain), (1, .int v1), (2, .int v2), (3, .int v3)]) hx hb dX4_take_4 hl (by decide) rfl (fun ls hl => ?_)
  exact L6  FU v2 0 rain_lost rain_spoons hf _ _ _ ⟨hP, hD⟩ hS (lv_sub hl [2, 3, 4, 5, 1, 0] rfl)
abbrev rmX4_passSpring : Room := { frames := 3, cells := 0, slots := 0, locals := 70 }
theorem hiX4_passSpring_2 : ∀ w ∈ wsX20, w ∈ wsX4_passSpring := fun w h => (goodIn_r (big := wsX4_passSpring) wsX20 [25, 26, 27, 28, 29, 30, 31, 32] rfl (by decide +kernel) w h).1
theorem hiX4_passSpring_4 : ∀ w ∈ wsX40, w ∈ wsX4_passSpring := fun w h => (goodIn_r (big := wsX4_passSpring) wsX40 [21, 22, 23, 24] rfl (by decide +kernel) w h).1
theorem cw_X4_passSpring_X4_take_60 {s : State} {args : Array Value} (hts : ∀ x ∈ wsX4_passSpring, x.before args s = true) : CallW rmX4_passSpring s args RX4 RX4 60 yX4_take cX4_take 8 (some .int) wsX4_take rmX4_take 0 0 3 := cwV 3 hts gX4_passSpring_X4_take rfl rfl rfl (by decide +kernel) ⟨Nat.le_of_ble_eq_true rfl, Nat.le_of_ble_eq_true rfl⟩
set_option maxRecDepth 100000 in
set_option maxHeartbeats 4000000 in
theorem c_X4_passSpring (l : Launch) (D : va_G) (cI cZ cR : ClassId) (a_rain : Nat) (a_house : Nat) (a_house_shrinks : Nat) (a_house_byAge : Nat) (a_rain_spoons : Nat) (a_house_years : Nat) (a_house_spoons : Nat) (a_house_sorts : Nat) (rain_springs : Int32) (rain_lost : Int32) (house_pans : Int32) (house_least : Int32) (house_shelf : Int32) (house_shrinks : Nat → Int32) (house_byAge : Nat → Int32) (rain_spoons : Nat → Int32) (out : Int32 × Int32 × Int32 × (Nat → Int32)) (hf : f_X4_passSpring rain_springs rain_lost house_pans house_shrinks house_byAge rain_spoons = some out) : Ci l yX4_passSpring wsX4_passSpring rmX4_passSpring D cI cZ cR [.ref a_rain] [(a_rain, .inr (4, [.ref a_house, .ref a_rain_spoons, .int rain_springs, .int rain_lost])), (a_house, .inr (2, [.int house_pans, .int house_least, .int house_shelf, .ref a_house_years, .ref a_house_spoons, .ref a_house_shrinks, .ref a_house_sorts, .ref a_house_byAge])), (a_house_shrinks, .inl (cI, 7, .inl house_shrinks)), (a_house_byAge, .inl (cI, 7, .inl house_byAge)), (a_rain_spoons, .inl (cI, 49, .inl rain_spoons))] out.1 [(a_rain, .inr (4, [.ref a_house, .ref a_rain_spoons, .int out.2.1, .int out.2.2.1])), (a_house, .inr (2, [.int house_pans, .int house_least, .int house_shelf, .ref a_house_years, .ref a_house_spoons, .ref a_house_shrinks, .ref a_house_sorts, .ref a_house_byAge])), (a_house_shrinks, .inl (cI, 7, .inl house_shrinks)), (a_house_byAge, .inl (cI, 7, .inl house_byAge)), (a_rain_spoons, .inl (cI, 49, .inl out.2.2.2))] := by
  refine ent_i (cc := cX4_passSpring) (maxL := 3) .int (by decide) rfl (Nat.le_of_ble_eq_true rfl) ?_
  intro p e s m below meth c A Q hx hb hml hown hts hE hA hP hD hS hret ls hl
  have hown : s.vm.findClass RX4 = some m.cls := hown
  have hl : lv_has ls 3 [(0, .ref a_rain)] := hl
  have fL15 := hts (.fieldLink RX4 15 "RainShelves$Rain" "house" "LRainShelves$House;") (List.mem_of_getElem? (i := 1) rfl)
  have fL19 := hts (.fieldLink RX4 19 "RainShelves$Rain" "springs" "I") (List.mem_of_getElem? (i := 2) rfl)
  have fL26 : (Cond.fieldLinkNest RX4 26 "RainShelves$House" "pans" "I" "RainShelves").before ([.ref a_rain] : List Value).toArray s = true := hE.nf 1 rfl
  have fL57 : (Cond.fieldLinkNest RX4 57 "RainShelves$House" "shrinks" "[I" "RainShelves").before ([.ref a_rain] : List Value).toArray s = true := hE.nf 14 rfl
  unfold f_X4_passSpring at hf
  have J39 : ∀ (v1_39 : Int32) (rain_lost_39 : Int32) (rain_spoons_39 : Nat → Int32), f_X4_passSpring_J39 rain_springs v1_39 rain_lost_39 rain_spoons_39 = some out → ∀ (H : Heap) (locs : List Loc) (ls : Array Slot), PD D A [(a_rain, .inr (4, [.ref a_house, .ref a_rain_spoons, .int rain_springs, .int rain_lost_39])), (a_house, .inr (2, [.int house_pans, .int house_least, .int house_shelf, .ref a_house_years, .ref a_house_spoons, .ref a_house_shrinks, .ref a_house_sorts, .ref a_house_byAge])), (a_house_shrinks, .inl (cI, 7, .inl house_shrinks)), (a_house_byAge, .inl (cI, 7, .inl house_byAge)), (a_rain_spoons, .inl (cI, 49, .inl rain_spoons_39))] H → va_S A s.heap H locs → lv_has ls 3 [(0, .ref a_rain), (1, .int v1_39)] → W p l e rmX4_passSpring s m ([.ref a_rain] : List Value).toArray below meth c H locs 0 0 Q (F0 m 39 ls []) := by
    intro v1_39 rain_lost_39 rain_spoons_39 hf H locs ls hPD hS hl
    obtain ⟨hP, hD⟩ := hPD
    unfold f_X4_passSpring_J39 at hf
    refine lv_aload_n hx hb dX4_passSpring_39 rfl (lv_at hl 0 rfl) ?_
    refine lv_dup hx hb dX4_passSpring_40 rfl ?_
    refine va_get (D := D) (ci := 4) (v := .int rain_springs) (C := RX4) (T := TX4) (N := 4) hx hb hts hiX4_passSpring_4 hown hE.1 hP 0 rfl rfl 2 (by decide) fL19 (fun _ h9 => h9) rfl dX4_passSpring_41 ?_
    refine lv_iconst (v := 1) hx hb dX4_passSpring_44 (by decide) ?_
    refine lv_iadd hx hb dX4_passSpring_45 ?_
    refine va_put (D := D) (ci := 4) (v := .int (rain_springs + 1)) (ty := .int) (C := RX4) (T := TX4) (N := 4) hx hb hts hiX4_passSpring_4 tyX4 tyX4_ok nmX4 hown hE.1 hP hD hS 0 rfl rfl 2 (by decide) fL19 (fun _ h9 => h9) rfl (tyX4_ok 2 (by decide)) rfl rfl (Nat.le_of_ble_eq_true rfl) dX4_passSpring_46 (fun H locs hP hD hS => ?_)
    have hPD : PD D A [(a_rain, .inr (4, [.ref a_house, .ref a_rain_spoons, .int (rain_springs + 1), .int rain_lost_39])), (a_house, .inr (2, [.int house_pans, .int house_least, .int house_shelf, .ref a_house_years, .ref a_house_spoons, .ref a_house_shrinks, .ref a_house_sorts, .ref a_house_byAge])), (a_house_shrinks, .inl (cI, 7, .inl house_shrinks)), (a_house_byAge, .inl (cI, 7, .inl house_byAge)), (a_rain_spoons, .inl (cI, 49, .inl rain_spoons_39))] H := ⟨hP, hD⟩
    obtain ⟨hP, hD⟩ := hPD
    refine lv_iload_n hx hb dX4_passSpring_49 rfl (lv_at hl 1 rfl) ?_
    have he := Option.some.inj hf
    subst he
    exact hret _ _ _ _ dX4_passSpring_50 rfl hP hD hS
  have L4 : ∀ (n4 : Nat) (v1_4 : Int32) (v2_4 : Int32) (rain_lost_4 : Int32) (rain_spoons_4 : Nat → Int32), f_X4_passSpring_L4 rain_springs house_pans house_shrinks house_byAge n4 v1_4 v2_4 rain_lost_4 rain_spoons_4 = some out → ∀ (H : Heap) (locs : List Loc) (ls : Array Slot), PD D A [(a_rain, .inr (4, [.ref a_house, .ref a_rain_spoons, .int rain_springs, .int rain_lost_4])), (a_house, .inr (2, [.int house_pans, .int house_least, .int house_shelf, .ref a_house_years, .ref a_house_spoons, .ref a_house_shrinks, .ref a_house_sorts, .ref a_house_byAge])), (a_house_shrinks, .inl (cI, 7, .inl house_shrinks)), (a_house_byAge, .inl (cI, 7, .inl house_byAge)), (a_rain_spoons, .inl (cI, 49, .inl rain_spoons_4))] H → va_S A s.heap H locs → lv_has ls 3 [(0, .ref a_rain), (1, .int v1_4), (2, .int v2_4)] → W p l e rmX4_passSpring s m ([.ref a_rain] : List Value).toArray below meth c H locs 0 0 Q (F0 m 4 ls []) := by
    intro  n4
    induction n4 with
    | zero => intro v1_4 v2_4 rain_lost_4 rain_spoons_4 hf; cases hf
    | succ n4 ih4 =>
      intro v1_4 v2_4 rain_lost_4 rain_spoons_4 hf H locs ls hPD hS hl
      obtain ⟨hP, hD⟩ := hPD
      have hf : f_X4_passSpring_B4 rain_springs house_pans house_shrinks house_byAge (f_X4_passSpring_L4 rain_springs house_pans house_shrinks house_byAge n4) v1_4 v2_4 rain_lost_4 rain_spoons_4 = some out := hf
      unfold f_X4_passSpring_B4 at hf
      refine lv_iload_n hx hb dX4_passSpring_4 rfl (lv_at hl 2 rfl) ?_
      refine lv_aload_n hx hb dX4_passSpring_5 rfl (lv_at hl 0 rfl) ?_
      refine va_get (D := D) (ci := 4) (v := .ref a_house) (C := RX4) (T := TX4) (N := 4) hx hb hts hiX4_passSpring_4 hown hE.1 hP 0 rfl rfl 0 (by decide) fL15 (fun _ h9 => h9) rfl dX4_passSpring_6 ?_
      refine va_getN (D := D) (ci := 2) (v := .int house_pans) (C := RX2) (T := TX2) (N := 8) hx hb hts hiX4_passSpring_2 hown hE.1 hP 1 rfl rfl 0 (by decide) fL26 (fun _ h9 => h9) rfl dX4_passSpring_9 ?_
      refine lv_icmp_ge (tgt := 39) hx hb dX4_passSpring_12 (by decide) (fun hc1 => ?_) (fun hc1 => ?_)
      · have hf := if_t hf hc1
        exact J39 v1_4 rain_lost_4 rain_spoons_4 hf _ _ _ ⟨hP, hD⟩ hS (lv_sub hl [0, 1] rfl)
      · have hf := if_f hf hc1
        refine lv_iload_n hx hb dX4_passSpring_15 rfl (lv_at hl 1 rfl) ?_
        refine lv_aload_n hx hb dX4_passSpring_16 rfl (lv_at hl 0 rfl) ?_
        refine lv_iload_n hx hb dX4_passSpring_17 rfl (lv_at hl 2 rfl) ?_
        refine lv_aload_n hx hb dX4_passSpring_18 rfl (lv_at hl 0 rfl) ?_
        refine va_get (D := D) (ci := 4) (v := .ref a_house) (C := RX4) (T := TX4) (N := 4) hx hb hts hiX4_passSpring_4 hown hE.1 hP 0 rfl rfl 0 (by decide) fL15 (fun _ h9 => h9) rfl dX4_passSpring_19 ?_
        refine va_getN (D := D) (ci := 2) (v := .ref a_house_shrinks) (C := RX2) (T := TX2) (N := 8) hx hb hts hiX4_passSpring_2 hown hE.1 hP 1 rfl rfl 5 (by decide) fL57 (fun _ h9 => h9) rfl dX4_passSpring_22 ?_
        refine lv_iload_n hx hb dX4_passSpring_25 rfl (lv_at hl 2 rfl) ?_
        obtain ⟨hc2, hf⟩ := ck_some hf
        refine va_iald hx hb hE.1 hP 2 0 rfl rfl (ix_in hc2) dX4_passSpring_26 ?_
        refine lv_iconst (v := (-1)) hx hb dX4_passSpring_27 (by decide) ?_
        obtain ⟨u1, hu1, hf⟩ := bd_some hf
        refine cl_iV (As := [.int v2_4, .int (house_shrinks v2_4.toNatClampNeg), .int (-1)]) (rest := [.int v1_4]) ⟨hx, hb, hml, hown, hts⟩ (c_X4_take l D cI cZ cR a_rain a_house a_house_byAge a_rain_spoons a_house_years a_house_spoons a_house_shrinks a_house_sorts rain_springs rain_lost_4 house_pans house_least house_shelf house_byAge rain_spoons_4 v2_4 (house_shrinks v2_4.toNatClampNeg) (-1) u1 hu1) (cw_X4_passSpring_X4_take_60 hts) hE hP hD hS hA [0, 1, 3, 4] rfl rfl [a_rain, a_house, a_house_byAge, a_rain_spoons] rfl rfl 0 4 rfl rfl rfl hl.1 rfl (Nat.le_of_ble_eq_true rfl) dX4_passSpring_28 ⟨Nat.zero_le _, Nat.zero_le _⟩ (fun H locs hP hD hS => ?_)
        have hPD : PD D A [(a_rain, .inr (4, [.ref a_house, .ref a_rain_spoons, .int rain_springs, .int u1.2.1])), (a_house, .inr (2, [.int house_pans, .int house_least, .int house_shelf, .ref a_house_years, .ref a_house_spoons, .ref a_house_shrinks, .ref a_house_sorts, .ref a_house_byAge])), (a_house_shrinks, .inl (cI, 7, .inl house_shrinks)), (a_house_byAge, .inl (cI, 7, .inl house_byAge)), (a_rain_spoons, .inl (cI, 49, .inl u1.2.2))] H := ⟨hP, hD⟩
        obtain ⟨hP, hD⟩ := hPD
        refine lv_iadd hx hb dX4_passSpring_31 ?_
        refine lv_istore_n (lv' := [(1, .int (v1_4 + u1.1)), (0, .ref a_rain), (2, .int v2_4)]) hx hb dX4_passSpring_32 rfl hl (by decide) rfl (fun ls hl => ?_)
        refine lv_iinc (v := (v2_4 + 1)) (lv' := [(2, .int (v2_4 + 1)), (1, .int (v1_4 + u1.1)), (0, .ref a_rain)]) hx hb dX4_passSpring_33 hl (k := 2) rfl (ii_p1 _) (by decide) rfl (fun ls hl => ?_)
        refine lv_goto (tgt := 4) hx hb dX4_passSpring_36 (by decide) ?_
        exact ih4 (v1_4 + u1.1) (v2_4 + 1) u1.2.1 u1.2.2 hf _ _ _ ⟨hP, hD⟩ hS (lv_sub hl [2, 1, 0] rfl)
  refine lv_iconst (v := 0) hx hb dX4_passSpring_0 (by decide) ?_
  refine lv_istore_n (lv' := [(1, .int 0), (0, .ref a_rain)]) hx hb dX4_passSpring_1 rfl hl (by decide) rfl (fun ls hl => ?_)
  refine lv_iconst (v := 0) hx hb dX4_passSpring_2 (by decide) ?_
  refine lv_istore_n (lv' := [(2, .int 0), (1, .int 0), (0, .ref a_rain)]) hx hb dX4_passSpring_3 rfl hl (by decide) rfl (fun ls hl => ?_)
  exact L4  FU 0 0 rain_lost rain_spoons hf _ _ _ ⟨hP, hD⟩ hS (lv_sub hl [2, 1, 0] rfl)
abbrev rmX4_canBeReadIn : Room := { frames := 2, cells := 0, slots := 0, locals := 43 }
theorem hiX4_canBeReadIn_2 : ∀ w ∈ wsX20, w ∈ wsX4_canBeReadIn := fun w h => (goodIn_r (big := wsX4_canBeReadIn) wsX20 [19, 20, 21, 22, 23, 24, 25, 26] rfl (by decide +kernel) w h).1
theorem hiX4_canBeReadIn_4 : ∀ w ∈ wsX40, w ∈ wsX4_canBeReadIn := fun w h => (goodIn_r (big := wsX4_canBeReadIn) wsX40 [15, 16, 17, 18] rfl (by decide +kernel) w h).1
theorem cw_X4_canBeReadIn_X4_amount_36 {s : State} {args : Array Value} (hts : ∀ x ∈ wsX4_canBeReadIn, x.before args s = true) : CallW rmX4_canBeReadIn s args RX4 RX4 36 yX4_amount cX4_amount 3 (some .int) wsX4_amount rmX4_amount 0 0 2 := cwV 2 hts gX4_canBeReadIn_X4_amount rfl rfl rfl (by decide +kernel) ⟨Nat.le_of_ble_eq_true rfl, Nat.le_of_ble_eq_true rfl⟩
set_option maxRecDepth 100000 in
set_option maxHeartbeats 4000000 in
theorem c_X4_canBeReadIn (l : Launch) (D : va_G) (cI cZ cR : ClassId) (a_rain : Nat) (a_house : Nat) (a_house_shrinks : Nat) (a_house_byAge : Nat) (a_rain_spoons : Nat) (a_house_years : Nat) (a_house_spoons : Nat) (a_house_sorts : Nat) (rain_springs : Int32) (rain_lost : Int32) (house_pans : Int32) (house_least : Int32) (house_shelf : Int32) (house_shrinks : Nat → Int32) (house_byAge : Nat → Int32) (rain_spoons : Nat → Int32) (v1 : Int32) (v2 : Int32) (out : Int32) (hf : f_X4_canBeReadIn house_pans house_least house_shrinks house_byAge rain_spoons v1 v2 = some out) : Ci l yX4_canBeReadIn wsX4_canBeReadIn rmX4_canBeReadIn D cI cZ cR [.ref a_rain, .int v1, .int v2] [(a_rain, .inr (4, [.ref a_house, .ref a_rain_spoons, .int rain_springs, .int rain_lost])), (a_house, .inr (2, [.int house_pans, .int house_least, .int house_shelf, .ref a_house_years, .ref a_house_spoons, .ref a_house_shrinks, .ref a_house_sorts, .ref a_house_byAge])), (a_house_shrinks, .inl (cI, 7, .inl house_shrinks)), (a_house_byAge, .inl (cI, 7, .inl house_byAge)), (a_rain_spoons, .inl (cI, 49, .inl rain_spoons))] out [(a_rain, .inr (4, [.ref a_house, .ref a_rain_spoons, .int rain_springs, .int rain_lost])), (a_house, .inr (2, [.int house_pans, .int house_least, .int house_shelf, .ref a_house_years, .ref a_house_spoons, .ref a_house_shrinks, .ref a_house_sorts, .ref a_house_byAge])), (a_house_shrinks, .inl (cI, 7, .inl house_shrinks)), (a_house_byAge, .inl (cI, 7, .inl house_byAge)), (a_rain_spoons, .inl (cI, 49, .inl rain_spoons))] := by
  refine ent_i (cc := cX4_canBeReadIn) (maxL := 10) .boolean (by decide) rfl (Nat.le_of_ble_eq_true rfl) ?_
  intro p e s m below meth c A Q hx hb hml hown hts hE hA hP hD hS hret ls hl
  have hown : s.vm.findClass RX4 = some m.cls := hown
  have hl : lv_has ls 10 [(0, .ref a_rain), (1, .int v1), (2, .int v2)] := hl
  have fL15 := hts (.fieldLink RX4 15 "RainShelves$Rain" "house" "LRainShelves$House;") (List.mem_of_getElem? (i := 1) rfl)
  have fL26 : (Cond.fieldLinkNest RX4 26 "RainShelves$House" "pans" "I" "RainShelves").before ([.ref a_rain, .int v1, .int v2] : List Value).toArray s = true := hE.nf 1 rfl
  have fL46 : (Cond.fieldLinkNest RX4 46 "RainShelves$House" "byAge" "[I" "RainShelves").before ([.ref a_rain, .int v1, .int v2] : List Value).toArray s = true := hE.nf 16 rfl
  have fL57 : (Cond.fieldLinkNest RX4 57 "RainShelves$House" "shrinks" "[I" "RainShelves").before ([.ref a_rain, .int v1, .int v2] : List Value).toArray s = true := hE.nf 14 rfl
  have fL68 : (Cond.fieldLinkNest RX4 68 "RainShelves$House" "least" "I" "RainShelves").before ([.ref a_rain, .int v1, .int v2] : List Value).toArray s = true := hE.nf 5 rfl
  have mBmin := hts (.static Lib.Math.min.name) (List.mem_of_getElem? (i := 3) rfl)
  have mDmin := hts (.code Lib.Math.min.name Lib.Math.min.code 2 (some .int)) (List.mem_of_getElem? (i := 5) rfl)
  have mC := hts (.initialized "java/lang/Math") (List.mem_of_getElem? (i := 4) rfl)
  have mA52 := hts (.methodLink RX4 52 Lib.Math.min.name) (List.mem_of_getElem? (i := 2) rfl)
  unfold f_X4_canBeReadIn at hf
  have J101 : ∀ (v4_101 : Int32) (v5_101 : Int32), f_X4_canBeReadIn_J101 house_least v4_101 v5_101 = some out → ∀ (H : Heap) (locs : List Loc) (ls : Array Slot), PD D A [(a_rain, .inr (4, [.ref a_house, .ref a_rain_spoons, .int rain_springs, .int rain_lost])), (a_house, .inr (2, [.int house_pans, .int house_least, .int house_shelf, .ref a_house_years, .ref a_house_spoons, .ref a_house_shrinks, .ref a_house_sorts, .ref a_house_byAge])), (a_house_shrinks, .inl (cI, 7, .inl house_shrinks)), (a_house_byAge, .inl (cI, 7, .inl house_byAge)), (a_rain_spoons, .inl (cI, 49, .inl rain_spoons))] H → va_S A s.heap H locs → lv_has ls 10 [(0, .ref a_rain), (4, .int v4_101), (5, .int v5_101)] → W p l e rmX4_canBeReadIn s m ([.ref a_rain, .int v1, .int v2] : List Value).toArray below meth c H locs 0 0 Q (F0 m 101 ls []) := by
    intro v4_101 v5_101 hf H locs ls hPD hS hl
    obtain ⟨hP, hD⟩ := hPD
    unfold f_X4_canBeReadIn_J101 at hf
    refine lv_iload hx hb dX4_canBeReadIn_101 (lv_at hl 1 rfl) ?_
    refine lv_aload_n hx hb dX4_canBeReadIn_103 rfl (lv_at hl 0 rfl) ?_
    refine va_get (D := D) (ci := 4) (v := .ref a_house) (C := RX4) (T := TX4) (N := 4) hx hb hts hiX4_canBeReadIn_4 hown hE.1 hP 0 rfl rfl 0 (by decide) fL15 (fun _ h9 => h9) rfl dX4_canBeReadIn_104 ?_
    refine va_getN (D := D) (ci := 2) (v := .int house_least) (C := RX2) (T := TX2) (N := 8) hx hb hts hiX4_canBeReadIn_2 hown hE.1 hP 1 rfl rfl 1 (by decide) fL68 (fun _ h9 => h9) rfl dX4_canBeReadIn_107 ?_
    refine lv_icmp_lt (tgt := 122) hx hb dX4_canBeReadIn_110 (by decide) (fun hc1 => ?_) (fun hc1 => ?_)
    · have hf := if_t hf hc1
      refine lv_iconst (v := 0) hx hb dX4_canBeReadIn_122 (by decide) ?_
      have he := Option.some.inj hf
      subst he
      exact hret _ _ _ _ dX4_canBeReadIn_123 bn0 hP hD hS
    · have hf := if_f hf hc1
      refine lv_iload hx hb dX4_canBeReadIn_113 (lv_at hl 2 rfl) ?_
      refine lv_if_ne (tgt := 122) hx hb dX4_canBeReadIn_115 (by decide) (fun hc2 => ?_) (fun hc2 => ?_)
      · have hf := if_f hf hc2
        refine lv_iconst (v := 0) hx hb dX4_canBeReadIn_122 (by decide) ?_
        have he := Option.some.inj hf
        subst he
        exact hret _ _ _ _ dX4_canBeReadIn_123 bn0 hP hD hS
      · have hf := if_t hf hc2
        refine lv_iconst (v := 1) hx hb dX4_canBeReadIn_118 (by decide) ?_
        refine lv_goto (tgt := 123) hx hb dX4_canBeReadIn_119 (by decide) ?_
        have he := Option.some.inj hf
        subst he
        exact hret _ _ _ _ dX4_canBeReadIn_123 bn1 hP hD hS
  have L21 : ∀ (n21 : Nat) (v3_21 : Int32) (v4_21 : Int32) (v5_21 : Int32) (v6_21 : Int32), f_X4_canBeReadIn_L21 house_pans house_least house_byAge rain_spoons v2 n21 v3_21 v4_21 v5_21 v6_21 = some out → ∀ (H : Heap) (locs : List Loc) (ls : Array Slot), PD D A [(a_rain, .inr (4, [.ref a_house, .ref a_rain_spoons, .int rain_springs, .int rain_lost])), (a_house, .inr (2, [.int house_pans, .int house_least, .int house_shelf, .ref a_house_years, .ref a_house_spoons, .ref a_house_shrinks, .ref a_house_sorts, .ref a_house_byAge])), (a_house_shrinks, .inl (cI, 7, .inl house_shrinks)), (a_house_byAge, .inl (cI, 7, .inl house_byAge)), (a_rain_spoons, .inl (cI, 49, .inl rain_spoons))] H → va_S A s.heap H locs → lv_has ls 10 [(0, .ref a_rain), (2, .int v2), (3, .int v3_21), (4, .int v4_21), (5, .int v5_21), (6, .int v6_21)] → W p l e rmX4_canBeReadIn s m ([.ref a_rain, .int v1, .int v2] : List Value).toArray below meth c H locs 0 0 Q (F0 m 21 ls []) := by
    intro  n21
    induction n21 with
    | zero => intro v3_21 v4_21 v5_21 v6_21 hf; cases hf
    | succ n21 ih21 =>
      intro v3_21 v4_21 v5_21 v6_21 hf H locs ls hPD hS hl
      obtain ⟨hP, hD⟩ := hPD
      have hf : f_X4_canBeReadIn_B21 house_pans house_least house_byAge rain_spoons v2 (f_X4_canBeReadIn_L21 house_pans house_least house_byAge rain_spoons v2 n21) v3_21 v4_21 v5_21 v6_21 = some out := hf
      unfold f_X4_canBeReadIn_B21 at hf
      refine lv_iload hx hb dX4_canBeReadIn_21 (lv_at hl 5 rfl) ?_
      refine lv_aload_n hx hb dX4_canBeReadIn_23 rfl (lv_at hl 0 rfl) ?_
      refine va_get (D := D) (ci := 4) (v := .ref a_house) (C := RX4) (T := TX4) (N := 4) hx hb hts hiX4_canBeReadIn_4 hown hE.1 hP 0 rfl rfl 0 (by decide) fL15 (fun _ h9 => h9) rfl dX4_canBeReadIn_24 ?_
      refine va_getN (D := D) (ci := 2) (v := .int house_pans) (C := RX2) (T := TX2) (N := 8) hx hb hts hiX4_canBeReadIn_2 hown hE.1 hP 1 rfl rfl 0 (by decide) fL26 (fun _ h9 => h9) rfl dX4_canBeReadIn_27 ?_
      refine lv_icmp_ge (tgt := 101) hx hb dX4_canBeReadIn_30 (by decide) (fun hc3 => ?_) (fun hc3 => ?_)
      · have hf := if_t hf hc3
        exact J101 v4_21 v5_21 hf _ _ _ ⟨hP, hD⟩ hS (lv_sub hl [0, 3, 4] rfl)
      · have hf := if_f hf hc3
        refine lv_aload_n hx hb dX4_canBeReadIn_33 rfl (lv_at hl 0 rfl) ?_
        refine va_get (D := D) (ci := 4) (v := .ref a_house) (C := RX4) (T := TX4) (N := 4) hx hb hts hiX4_canBeReadIn_4 hown hE.1 hP 0 rfl rfl 0 (by decide) fL15 (fun _ h9 => h9) rfl dX4_canBeReadIn_34 ?_
        refine va_getN (D := D) (ci := 2) (v := .ref a_house_byAge) (C := RX2) (T := TX2) (N := 8) hx hb hts hiX4_canBeReadIn_2 hown hE.1 hP 1 rfl rfl 7 (by decide) fL46 (fun _ h9 => h9) rfl dX4_canBeReadIn_37 ?_
        refine lv_iload hx hb dX4_canBeReadIn_40 (lv_at hl 5 rfl) ?_
        obtain ⟨hc4, hf⟩ := ck_some hf
        refine va_iald hx hb hE.1 hP 3 0 rfl rfl (ix_in hc4) dX4_canBeReadIn_42 ?_
        refine lv_istore (lv' := [(7, .int (house_byAge v6_21.toNatClampNeg)), (0, .ref a_rain), (2, .int v2), (3, .int v3_21), (4, .int v4_21), (5, .int v5_21), (6, .int v6_21)]) hx hb dX4_canBeReadIn_43 hl (by decide) rfl (fun ls hl => ?_)
        refine lv_iload_n hx hb dX4_canBeReadIn_45 rfl (lv_at hl 3 rfl) ?_
        refine lv_aload_n hx hb dX4_canBeReadIn_46 rfl (lv_at hl 1 rfl) ?_
        refine lv_iload_n hx hb dX4_canBeReadIn_47 rfl (lv_at hl 2 rfl) ?_
        refine lv_iload hx hb dX4_canBeReadIn_48 (lv_at hl 0 rfl) ?_
        obtain ⟨u1, hu1, hf⟩ := bd_some hf
        refine cl_iV (As := [.int v2, .int (house_byAge v6_21.toNatClampNeg)]) (rest := [.int v3_21]) ⟨hx, hb, hml, hown, hts⟩ (c_X4_amount l D cI cZ cR a_rain a_rain_spoons a_house rain_springs rain_lost rain_spoons v2 (house_byAge v6_21.toNatClampNeg) u1 hu1) (cw_X4_canBeReadIn_X4_amount_36 hts) hE hP hD hS hA [0, 4] rfl rfl [a_rain, a_rain_spoons] rfl rfl 0 4 rfl rfl rfl hl.1 rfl (Nat.le_of_ble_eq_true rfl) dX4_canBeReadIn_50 ⟨Nat.zero_le _, Nat.zero_le _⟩ (fun H locs hP hD hS => ?_)
        have hPD : PD D A [(a_rain, .inr (4, [.ref a_house, .ref a_rain_spoons, .int rain_springs, .int rain_lost])), (a_house, .inr (2, [.int house_pans, .int house_least, .int house_shelf, .ref a_house_years, .ref a_house_spoons, .ref a_house_shrinks, .ref a_house_sorts, .ref a_house_byAge])), (a_house_shrinks, .inl (cI, 7, .inl house_shrinks)), (a_house_byAge, .inl (cI, 7, .inl house_byAge)), (a_rain_spoons, .inl (cI, 49, .inl rain_spoons))] H := ⟨hP, hD⟩
        obtain ⟨hP, hD⟩ := hPD
        refine va_mmin hx hb (hml.trans hl.1.symm) hown mA52 mBmin mC mDmin (Nat.le_of_ble_eq_true rfl) (Nat.le_of_ble_eq_true rfl) (Nat.zero_le _) (Nat.zero_le _) dX4_canBeReadIn_53 ?_
        refine lv_istore (lv' := [(8, .int (if u1 < v3_21 then u1 else v3_21)), (7, .int (house_byAge v6_21.toNatClampNeg)), (0, .ref a_rain), (2, .int v2), (3, .int v3_21), (4, .int v4_21), (5, .int v5_21), (6, .int v6_21)]) hx hb dX4_canBeReadIn_56 hl (by decide) rfl (fun ls hl => ?_)
        refine lv_iload_n hx hb dX4_canBeReadIn_58 rfl (lv_at hl 4 rfl) ?_
        refine lv_iload hx hb dX4_canBeReadIn_59 (lv_at hl 0 rfl) ?_
        refine lv_isub hx hb dX4_canBeReadIn_61 ?_
        refine lv_istore_n (lv' := [(3, .int (v3_21 - (if u1 < v3_21 then u1 else v3_21))), (8, .int (if u1 < v3_21 then u1 else v3_21)), (7, .int (house_byAge v6_21.toNatClampNeg)), (0, .ref a_rain), (2, .int v2), (4, .int v4_21), (5, .int v5_21), (6, .int v6_21)]) hx hb dX4_canBeReadIn_62 rfl hl (by decide) rfl (fun ls hl => ?_)
        refine lv_aload_n hx hb dX4_canBeReadIn_63 rfl (lv_at hl 3 rfl) ?_
        refine lv_iload_n hx hb dX4_canBeReadIn_64 rfl (lv_at hl 4 rfl) ?_
        refine lv_iload hx hb dX4_canBeReadIn_65 (lv_at hl 2 rfl) ?_
        obtain ⟨u2, hu2, hf⟩ := bd_some hf
        refine cl_iV (As := [.int v2, .int (house_byAge v6_21.toNatClampNeg)]) (rest := []) ⟨hx, hb, hml, hown, hts⟩ (c_X4_amount l D cI cZ cR a_rain a_rain_spoons a_house rain_springs rain_lost rain_spoons v2 (house_byAge v6_21.toNatClampNeg) u2 hu2) (cw_X4_canBeReadIn_X4_amount_36 hts) hE hP hD hS hA [0, 4] rfl rfl [a_rain, a_rain_spoons] rfl rfl 0 4 rfl rfl rfl hl.1 rfl (Nat.le_of_ble_eq_true rfl) dX4_canBeReadIn_67 ⟨Nat.zero_le _, Nat.zero_le _⟩ (fun H locs hP hD hS => ?_)
        have hPD : PD D A [(a_rain, .inr (4, [.ref a_house, .ref a_rain_spoons, .int rain_springs, .int rain_lost])), (a_house, .inr (2, [.int house_pans, .int house_least, .int house_shelf, .ref a_house_years, .ref a_house_spoons, .ref a_house_shrinks, .ref a_house_sorts, .ref a_house_byAge])), (a_house_shrinks, .inl (cI, 7, .inl house_shrinks)), (a_house_byAge, .inl (cI, 7, .inl house_byAge)), (a_rain_spoons, .inl (cI, 49, .inl rain_spoons))] H := ⟨hP, hD⟩
        obtain ⟨hP, hD⟩ := hPD
        refine lv_iload hx hb dX4_canBeReadIn_70 (lv_at hl 1 rfl) ?_
        refine lv_isub hx hb dX4_canBeReadIn_72 ?_
        refine lv_istore (lv' := [(9, .int (u2 - (if u1 < v3_21 then u1 else v3_21))), (3, .int (v3_21 - (if u1 < v3_21 then u1 else v3_21))), (8, .int (if u1 < v3_21 then u1 else v3_21)), (7, .int (house_byAge v6_21.toNatClampNeg)), (0, .ref a_rain), (2, .int v2), (4, .int v4_21), (5, .int v5_21), (6, .int v6_21)]) hx hb dX4_canBeReadIn_73 hl (by decide) rfl (fun ls hl => ?_)
        refine lv_iload hx hb dX4_canBeReadIn_75 (lv_at hl 3 rfl) ?_
        refine lv_iload_n hx hb dX4_canBeReadIn_77 rfl (lv_at hl 5 rfl) ?_
        refine lv_icmp_ne (tgt := 88) hx hb dX4_canBeReadIn_78 (by decide) (fun hc5 => ?_) (fun hc5 => ?_)
        · have hf := if_f hf hc5
          refine lv_iload hx hb dX4_canBeReadIn_88 (lv_at hl 7 rfl) ?_
          refine lv_iload hx hb dX4_canBeReadIn_90 (lv_at hl 0 rfl) ?_
          refine lv_iadd hx hb dX4_canBeReadIn_92 ?_
          refine lv_istore (lv' := [(5, .int (v5_21 + (u2 - (if u1 < v3_21 then u1 else v3_21)))), (9, .int (u2 - (if u1 < v3_21 then u1 else v3_21))), (3, .int (v3_21 - (if u1 < v3_21 then u1 else v3_21))), (8, .int (if u1 < v3_21 then u1 else v3_21)), (7, .int (house_byAge v6_21.toNatClampNeg)), (0, .ref a_rain), (2, .int v2), (4, .int v4_21), (6, .int v6_21)]) hx hb dX4_canBeReadIn_93 hl (by decide) rfl (fun ls hl => ?_)
          refine lv_iinc (v := (v6_21 + 1)) (lv' := [(6, .int (v6_21 + 1)), (5, .int (v5_21 + (u2 - (if u1 < v3_21 then u1 else v3_21)))), (9, .int (u2 - (if u1 < v3_21 then u1 else v3_21))), (3, .int (v3_21 - (if u1 < v3_21 then u1 else v3_21))), (8, .int (if u1 < v3_21 then u1 else v3_21)), (7, .int (house_byAge v6_21.toNatClampNeg)), (0, .ref a_rain), (2, .int v2), (4, .int v4_21)]) hx hb dX4_canBeReadIn_95 hl (k := 8) rfl (ii_p1 _) (by decide) rfl (fun ls hl => ?_)
          refine lv_goto (tgt := 21) hx hb dX4_canBeReadIn_98 (by decide) ?_
          exact ih21 (v3_21 - (if u1 < v3_21 then u1 else v3_21)) v4_21 (v5_21 + (u2 - (if u1 < v3_21 then u1 else v3_21))) (v6_21 + 1) hf _ _ _ ⟨hP, hD⟩ hS (lv_sub hl [6, 7, 3, 8, 1, 0] rfl)
        · have hf := if_t hf hc5
          refine lv_iload hx hb dX4_canBeReadIn_81 (lv_at hl 0 rfl) ?_
          refine lv_istore (lv' := [(4, .int (u2 - (if u1 < v3_21 then u1 else v3_21))), (9, .int (u2 - (if u1 < v3_21 then u1 else v3_21))), (3, .int (v3_21 - (if u1 < v3_21 then u1 else v3_21))), (8, .int (if u1 < v3_21 then u1 else v3_21)), (7, .int (house_byAge v6_21.toNatClampNeg)), (0, .ref a_rain), (2, .int v2), (5, .int v5_21), (6, .int v6_21)]) hx hb dX4_canBeReadIn_83 hl (by decide) rfl (fun ls hl => ?_)
          refine lv_goto (tgt := 95) hx hb dX4_canBeReadIn_85 (by decide) ?_
          refine lv_iinc (v := (v6_21 + 1)) (lv' := [(6, .int (v6_21 + 1)), (4, .int (u2 - (if u1 < v3_21 then u1 else v3_21))), (9, .int (u2 - (if u1 < v3_21 then u1 else v3_21))), (3, .int (v3_21 - (if u1 < v3_21 then u1 else v3_21))), (8, .int (if u1 < v3_21 then u1 else v3_21)), (7, .int (house_byAge v6_21.toNatClampNeg)), (0, .ref a_rain), (2, .int v2), (5, .int v5_21)]) hx hb dX4_canBeReadIn_95 hl (k := 8) rfl (ii_p1 _) (by decide) rfl (fun ls hl => ?_)
          refine lv_goto (tgt := 21) hx hb dX4_canBeReadIn_98 (by decide) ?_
          exact ih21 (v3_21 - (if u1 < v3_21 then u1 else v3_21)) (u2 - (if u1 < v3_21 then u1 else v3_21)) v5_21 (v6_21 + 1) hf _ _ _ ⟨hP, hD⟩ hS (lv_sub hl [6, 7, 3, 1, 8, 0] rfl)
  refine lv_iload_n hx hb dX4_canBeReadIn_0 rfl (lv_at hl 1 rfl) ?_
  refine lv_aload_n hx hb dX4_canBeReadIn_1 rfl (lv_at hl 0 rfl) ?_
  refine va_get (D := D) (ci := 4) (v := .ref a_house) (C := RX4) (T := TX4) (N := 4) hx hb hts hiX4_canBeReadIn_4 hown hE.1 hP 0 rfl rfl 0 (by decide) fL15 (fun _ h9 => h9) rfl dX4_canBeReadIn_2 ?_
  refine va_getN (D := D) (ci := 2) (v := .ref a_house_shrinks) (C := RX2) (T := TX2) (N := 8) hx hb hts hiX4_canBeReadIn_2 hown hE.1 hP 1 rfl rfl 5 (by decide) fL57 (fun _ h9 => h9) rfl dX4_canBeReadIn_5 ?_
  refine lv_iload_n hx hb dX4_canBeReadIn_8 rfl (lv_at hl 2 rfl) ?_
  obtain ⟨hc6, hf⟩ := ck_some hf
  refine va_iald hx hb hE.1 hP 2 0 rfl rfl (ix_in hc6) dX4_canBeReadIn_9 ?_
  refine lv_imul hx hb dX4_canBeReadIn_10 ?_
  refine lv_istore_n (lv' := [(3, .int (v1 * (house_shrinks v2.toNatClampNeg))), (0, .ref a_rain), (1, .int v1), (2, .int v2)]) hx hb dX4_canBeReadIn_11 rfl hl (by decide) rfl (fun ls hl => ?_)
  refine lv_iconst (v := 0) hx hb dX4_canBeReadIn_12 (by decide) ?_
  refine lv_istore (lv' := [(4, .int 0), (3, .int (v1 * (house_shrinks v2.toNatClampNeg))), (0, .ref a_rain), (1, .int v1), (2, .int v2)]) hx hb dX4_canBeReadIn_13 hl (by decide) rfl (fun ls hl => ?_)
  refine lv_iconst (v := 0) hx hb dX4_canBeReadIn_15 (by decide) ?_
  refine lv_istore (lv' := [(5, .int 0), (4, .int 0), (3, .int (v1 * (house_shrinks v2.toNatClampNeg))), (0, .ref a_rain), (1, .int v1), (2, .int v2)]) hx hb dX4_canBeReadIn_16 hl (by decide) rfl (fun ls hl => ?_)
  refine lv_iconst (v := 0) hx hb dX4_canBeReadIn_18 (by decide) ?_
  refine lv_istore (lv' := [(6, .int 0), (5, .int 0), (4, .int 0), (3, .int (v1 * (house_shrinks v2.toNatClampNeg))), (0, .ref a_rain), (1, .int v1), (2, .int v2)]) hx hb dX4_canBeReadIn_19 hl (by decide) rfl (fun ls hl => ?_)
  exact L21  FU (v1 * (house_shrinks v2.toNatClampNeg)) 0 0 0 hf _ _ _ ⟨hP, hD⟩ hS (lv_sub hl [4, 6, 3, 2, 1, 0] rfl)
abbrev rmX4_canBeRead : Room := { frames := 3, cells := 0, slots := 0, locals := 72 }
theorem cw_X4_canBeRead_X4_canBeReadIn_64 {s : State} {args : Array Value} (hts : ∀ x ∈ wsX4_canBeRead, x.before args s = true) : CallW rmX4_canBeRead s args RX4 RX4 64 yX4_canBeReadIn cX4_canBeReadIn 10 (some .boolean) wsX4_canBeReadIn rmX4_canBeReadIn 0 0 2 := cwV 2 hts gX4_canBeRead_X4_canBeReadIn rfl rfl rfl (by decide +kernel) ⟨Nat.le_of_ble_eq_true rfl, Nat.le_of_ble_eq_true rfl⟩
set_option maxRecDepth 100000 in
set_option maxHeartbeats 4000000 in
theorem c_X4_canBeRead (l : Launch) (D : va_G) (cI cZ cR : ClassId) (a_rain : Nat) (a_house : Nat) (a_house_shrinks : Nat) (a_house_byAge : Nat) (a_rain_spoons : Nat) (a_house_years : Nat) (a_house_spoons : Nat) (a_house_sorts : Nat) (rain_springs : Int32) (rain_lost : Int32) (house_pans : Int32) (house_least : Int32) (house_shelf : Int32) (house_shrinks : Nat → Int32) (house_byAge : Nat → Int32) (rain_spoons : Nat → Int32) (v1 : Int32) (out : Int32) (hf : f_X4_canBeRead house_pans house_least house_shrinks house_byAge rain_spoons v1 = some out) : Ci l yX4_canBeRead wsX4_canBeRead rmX4_canBeRead D cI cZ cR [.ref a_rain, .int v1] [(a_rain, .inr (4, [.ref a_house, .ref a_rain_spoons, .int rain_springs, .int rain_lost])), (a_house, .inr (2, [.int house_pans, .int house_least, .int house_shelf, .ref a_house_years, .ref a_house_spoons, .ref a_house_shrinks, .ref a_house_sorts, .ref a_house_byAge])), (a_house_shrinks, .inl (cI, 7, .inl house_shrinks)), (a_house_byAge, .inl (cI, 7, .inl house_byAge)), (a_rain_spoons, .inl (cI, 49, .inl rain_spoons))] out [(a_rain, .inr (4, [.ref a_house, .ref a_rain_spoons, .int rain_springs, .int rain_lost])), (a_house, .inr (2, [.int house_pans, .int house_least, .int house_shelf, .ref a_house_years, .ref a_house_spoons, .ref a_house_shrinks, .ref a_house_sorts, .ref a_house_byAge])), (a_house_shrinks, .inl (cI, 7, .inl house_shrinks)), (a_house_byAge, .inl (cI, 7, .inl house_byAge)), (a_rain_spoons, .inl (cI, 49, .inl rain_spoons))] := by
  refine ent_i (cc := cX4_canBeRead) (maxL := 2) .boolean (by decide) rfl (Nat.le_of_ble_eq_true rfl) ?_
  intro p e s m below meth c A Q hx hb hml hown hts hE hA hP hD hS hret ls hl
  have hown : s.vm.findClass RX4 = some m.cls := hown
  have hl : lv_has ls 2 [(0, .ref a_rain), (1, .int v1)] := hl
  unfold f_X4_canBeRead at hf
  refine lv_aload_n hx hb dX4_canBeRead_0 rfl (lv_at hl 0 rfl) ?_
  refine lv_iconst (v := 0) hx hb dX4_canBeRead_1 (by decide) ?_
  refine lv_iload_n hx hb dX4_canBeRead_2 rfl (lv_at hl 1 rfl) ?_
  obtain ⟨u1, hu1, hf⟩ := bd_some hf
  refine cl_iV (As := [.int 0, .int v1]) (rest := []) ⟨hx, hb, hml, hown, hts⟩ (c_X4_canBeReadIn l D cI cZ cR a_rain a_house a_house_shrinks a_house_byAge a_rain_spoons a_house_years a_house_spoons a_house_sorts rain_springs rain_lost house_pans house_least house_shelf house_shrinks house_byAge rain_spoons 0 v1 u1 hu1) (cw_X4_canBeRead_X4_canBeReadIn_64 hts) hE hP hD hS hA [0, 1, 2, 3, 4] rfl rfl [a_rain, a_house, a_house_shrinks, a_house_byAge, a_rain_spoons] rfl rfl 0 4 rfl rfl rfl hl.1 rfl (Nat.le_of_ble_eq_true rfl) dX4_canBeRead_3 ⟨Nat.zero_le _, Nat.zero_le _⟩ (fun H locs hP hD hS => ?_)
  have hPD : PD D A [(a_rain, .inr (4, [.ref a_house, .ref a_rain_spoons, .int rain_springs, .int rain_lost])), (a_house, .inr (2, [.int house_pans, .int house_least, .int house_shelf, .ref a_house_years, .ref a_house_spoons, .ref a_house_shrinks, .ref a_house_sorts, .ref a_house_byAge])), (a_house_shrinks, .inl (cI, 7, .inl house_shrinks)), (a_house_byAge, .inl (cI, 7, .inl house_byAge)), (a_rain_spoons, .inl (cI, 49, .inl rain_spoons))] H := ⟨hP, hD⟩
  obtain ⟨hP, hD⟩ := hPD
  obtain ⟨hc1, hf⟩ := ck_some hf
  have he := Option.some.inj hf
  subst he
  exact hret _ _ _ _ dX4_canBeRead_6 (bo_nar hc1) hP hD hS
abbrev rmX4_readable : Room := { frames := 4, cells := 0, slots := 0, locals := 93 }
theorem hiX4_readable_2 : ∀ w ∈ wsX20, w ∈ wsX4_readable := fun w h => (goodIn_r (big := wsX4_readable) wsX20 [27, 28, 29, 30, 31, 32, 33, 34] rfl (by decide +kernel) w h).1
theorem hiX4_readable_4 : ∀ w ∈ wsX40, w ∈ wsX4_readable := fun w h => (goodIn_r (big := wsX4_readable) wsX40 [23, 24, 25, 26] rfl (by decide +kernel) w h).1
theorem cw_X4_readable_X4_canBeRead_71 {s : State} {args : Array Value} (hts : ∀ x ∈ wsX4_readable, x.before args s = true) : CallW rmX4_readable s args RX4 RX4 71 yX4_canBeRead cX4_canBeRead 2 (some .boolean) wsX4_canBeRead rmX4_canBeRead 0 0 1 := cwV 1 hts gX4_readable_X4_canBeRead rfl rfl rfl (by decide +kernel) ⟨Nat.le_of_ble_eq_true rfl, Nat.le_of_ble_eq_true rfl⟩
set_option maxRecDepth 100000 in
set_option maxHeartbeats 4000000 in
theorem c_X4_readable (l : Launch) (D : va_G) (cI cZ cR : ClassId) (a_rain : Nat) (a_house : Nat) (a_house_shrinks : Nat) (a_house_byAge : Nat) (a_rain_spoons : Nat) (a_house_years : Nat) (a_house_spoons : Nat) (a_house_sorts : Nat) (rain_springs : Int32) (rain_lost : Int32) (house_pans : Int32) (house_least : Int32) (house_shelf : Int32) (house_shrinks : Nat → Int32) (house_byAge : Nat → Int32) (rain_spoons : Nat → Int32) (out : Int32) (hf : f_X4_readable house_pans house_least house_shrinks house_byAge rain_spoons = some out) : Ci l yX4_readable wsX4_readable rmX4_readable D cI cZ cR [.ref a_rain] [(a_rain, .inr (4, [.ref a_house, .ref a_rain_spoons, .int rain_springs, .int rain_lost])), (a_house, .inr (2, [.int house_pans, .int house_least, .int house_shelf, .ref a_house_years, .ref a_house_spoons, .ref a_house_shrinks, .ref a_house_sorts, .ref a_house_byAge])), (a_house_shrinks, .inl (cI, 7, .inl house_shrinks)), (a_house_byAge, .inl (cI, 7, .inl house_byAge)), (a_rain_spoons, .inl (cI, 49, .inl rain_spoons))] out [(a_rain, .inr (4, [.ref a_house, .ref a_rain_spoons, .int rain_springs, .int rain_lost])), (a_house, .inr (2, [.int house_pans, .int house_least, .int house_shelf, .ref a_house_years, .ref a_house_spoons, .ref a_house_shrinks, .ref a_house_sorts, .ref a_house_byAge])), (a_house_shrinks, .inl (cI, 7, .inl house_shrinks)), (a_house_byAge, .inl (cI, 7, .inl house_byAge)), (a_rain_spoons, .inl (cI, 49, .inl rain_spoons))] := by
  refine ent_i (cc := cX4_readable) (maxL := 3) .int (by decide) rfl (Nat.le_of_ble_eq_true rfl) ?_
  intro p e s m below meth c A Q hx hb hml hown hts hE hA hP hD hS hret ls hl
  have hown : s.vm.findClass RX4 = some m.cls := hown
  have hl : lv_has ls 3 [(0, .ref a_rain)] := hl
  have fL15 := hts (.fieldLink RX4 15 "RainShelves$Rain" "house" "LRainShelves$House;") (List.mem_of_getElem? (i := 1) rfl)
  have fL26 : (Cond.fieldLinkNest RX4 26 "RainShelves$House" "pans" "I" "RainShelves").before ([.ref a_rain] : List Value).toArray s = true := hE.nf 1 rfl
  unfold f_X4_readable at hf
  have L4 : ∀ (n4 : Nat) (v1_4 : Int32) (v2_4 : Int32), f_X4_readable_L4 house_pans house_least house_shrinks house_byAge rain_spoons n4 v1_4 v2_4 = some out → ∀ (H : Heap) (locs : List Loc) (ls : Array Slot), PD D A [(a_rain, .inr (4, [.ref a_house, .ref a_rain_spoons, .int rain_springs, .int rain_lost])), (a_house, .inr (2, [.int house_pans, .int house_least, .int house_shelf, .ref a_house_years, .ref a_house_spoons, .ref a_house_shrinks, .ref a_house_sorts, .ref a_house_byAge])), (a_house_shrinks, .inl (cI, 7, .inl house_shrinks)), (a_house_byAge, .inl (cI, 7, .inl house_byAge)), (a_rain_spoons, .inl (cI, 49, .inl rain_spoons))] H → va_S A s.heap H locs → lv_has ls 3 [(0, .ref a_rain), (1, .int v1_4), (2, .int v2_4)] → W p l e rmX4_readable s m ([.ref a_rain] : List Value).toArray below meth c H locs 0 0 Q (F0 m 4 ls []) := by
    intro  n4
    induction n4 with
    | zero => intro v1_4 v2_4 hf; cases hf
    | succ n4 ih4 =>
      intro v1_4 v2_4 hf H locs ls hPD hS hl
      obtain ⟨hP, hD⟩ := hPD
      have hf : f_X4_readable_B4 house_pans house_least house_shrinks house_byAge rain_spoons (f_X4_readable_L4 house_pans house_least house_shrinks house_byAge rain_spoons n4) v1_4 v2_4 = some out := hf
      unfold f_X4_readable_B4 at hf
      refine lv_iload_n hx hb dX4_readable_4 rfl (lv_at hl 2 rfl) ?_
      refine lv_aload_n hx hb dX4_readable_5 rfl (lv_at hl 0 rfl) ?_
      refine va_get (D := D) (ci := 4) (v := .ref a_house) (C := RX4) (T := TX4) (N := 4) hx hb hts hiX4_readable_4 hown hE.1 hP 0 rfl rfl 0 (by decide) fL15 (fun _ h9 => h9) rfl dX4_readable_6 ?_
      refine va_getN (D := D) (ci := 2) (v := .int house_pans) (C := RX2) (T := TX2) (N := 8) hx hb hts hiX4_readable_2 hown hE.1 hP 1 rfl rfl 0 (by decide) fL26 (fun _ h9 => h9) rfl dX4_readable_9 ?_
      refine lv_icmp_ge (tgt := 35) hx hb dX4_readable_12 (by decide) (fun hc1 => ?_) (fun hc1 => ?_)
      · have hf := if_t hf hc1
        refine lv_iload_n hx hb dX4_readable_35 rfl (lv_at hl 1 rfl) ?_
        have he := Option.some.inj hf
        subst he
        exact hret _ _ _ _ dX4_readable_36 rfl hP hD hS
      · have hf := if_f hf hc1
        refine lv_aload_n hx hb dX4_readable_15 rfl (lv_at hl 0 rfl) ?_
        refine lv_iload_n hx hb dX4_readable_16 rfl (lv_at hl 2 rfl) ?_
        obtain ⟨u1, hu1, hf⟩ := bd_some hf
        refine cl_iV (As := [.int v2_4]) (rest := []) ⟨hx, hb, hml, hown, hts⟩ (c_X4_canBeRead l D cI cZ cR a_rain a_house a_house_shrinks a_house_byAge a_rain_spoons a_house_years a_house_spoons a_house_sorts rain_springs rain_lost house_pans house_least house_shelf house_shrinks house_byAge rain_spoons v2_4 u1 hu1) (cw_X4_readable_X4_canBeRead_71 hts) hE hP hD hS hA [0, 1, 2, 3, 4] rfl rfl [a_rain, a_house, a_house_shrinks, a_house_byAge, a_rain_spoons] rfl rfl 0 4 rfl rfl rfl hl.1 rfl (Nat.le_of_ble_eq_true rfl) dX4_readable_17 ⟨Nat.zero_le _, Nat.zero_le _⟩ (fun H locs hP hD hS => ?_)
        have hPD : PD D A [(a_rain, .inr (4, [.ref a_house, .ref a_rain_spoons, .int rain_springs, .int rain_lost])), (a_house, .inr (2, [.int house_pans, .int house_least, .int house_shelf, .ref a_house_years, .ref a_house_spoons, .ref a_house_shrinks, .ref a_house_sorts, .ref a_house_byAge])), (a_house_shrinks, .inl (cI, 7, .inl house_shrinks)), (a_house_byAge, .inl (cI, 7, .inl house_byAge)), (a_rain_spoons, .inl (cI, 49, .inl rain_spoons))] H := ⟨hP, hD⟩
        obtain ⟨hP, hD⟩ := hPD
        refine lv_if_eq (tgt := 29) hx hb dX4_readable_20 (by decide) (fun hc2 => ?_) (fun hc2 => ?_)
        · have hf := if_t hf hc2
          refine lv_iinc (v := (v2_4 + 1)) (lv' := [(2, .int (v2_4 + 1)), (0, .ref a_rain), (1, .int v1_4)]) hx hb dX4_readable_29 hl (k := 2) rfl (ii_p1 _) (by decide) rfl (fun ls hl => ?_)
          refine lv_goto (tgt := 4) hx hb dX4_readable_32 (by decide) ?_
          exact ih4 v1_4 (v2_4 + 1) hf _ _ _ ⟨hP, hD⟩ hS (lv_sub hl [1, 2, 0] rfl)
        · have hf := if_f hf hc2
          refine lv_iload_n hx hb dX4_readable_23 rfl (lv_at hl 1 rfl) ?_
          refine lv_iconst (v := 1) hx hb dX4_readable_24 (by decide) ?_
          refine lv_iload_n hx hb dX4_readable_25 rfl (lv_at hl 2 rfl) ?_
          refine lv_ishl hx hb dX4_readable_26 ?_
          refine lv_ior hx hb dX4_readable_27 ?_
          refine lv_istore_n (lv' := [(1, .int (v1_4 ||| ((1 : Int32) <<< (v2_4 &&& 31)))), (0, .ref a_rain), (2, .int v2_4)]) hx hb dX4_readable_28 rfl hl (by decide) rfl (fun ls hl => ?_)
          refine lv_iinc (v := (v2_4 + 1)) (lv' := [(2, .int (v2_4 + 1)), (1, .int (v1_4 ||| ((1 : Int32) <<< (v2_4 &&& 31)))), (0, .ref a_rain)]) hx hb dX4_readable_29 hl (k := 2) rfl (ii_p1 _) (by decide) rfl (fun ls hl => ?_)
          refine lv_goto (tgt := 4) hx hb dX4_readable_32 (by decide) ?_
          exact ih4 (v1_4 ||| ((1 : Int32) <<< (v2_4 &&& 31))) (v2_4 + 1) hf _ _ _ ⟨hP, hD⟩ hS (lv_sub hl [2, 1, 0] rfl)
  refine lv_iconst (v := 0) hx hb dX4_readable_0 (by decide) ?_
  refine lv_istore_n (lv' := [(1, .int 0), (0, .ref a_rain)]) hx hb dX4_readable_1 rfl hl (by decide) rfl (fun ls hl => ?_)
  refine lv_iconst (v := 0) hx hb dX4_readable_2 (by decide) ?_
  refine lv_istore_n (lv' := [(2, .int 0), (1, .int 0), (0, .ref a_rain)]) hx hb dX4_readable_3 rfl hl (by decide) rfl (fun ls hl => ?_)
  exact L4  FU 0 0 hf _ _ _ ⟨hP, hD⟩ hS (lv_sub hl [2, 1, 0] rfl)
abbrev rmX5_weigh : Room := { frames := 3, cells := 0, slots := 0, locals := 66 }
theorem hiX5_weigh_2 : ∀ w ∈ wsX20, w ∈ wsX5_weigh := fun w h => (goodIn_r (big := wsX5_weigh) wsX20 [31, 32, 33, 34, 35, 36, 37, 38] rfl (by decide +kernel) w h).1
theorem hiX5_weigh_5 : ∀ w ∈ wsX50, w ∈ wsX5_weigh := fun w h => (goodIn_r (big := wsX5_weigh) wsX50 [25, 26, 27, 28, 29, 30] rfl (by decide +kernel) w h).1
theorem cw_X5_weigh_X4_inPan_41 {s : State} {args : Array Value} {D : va_G} {cI cZ cR : ClassId} (hE : EV D cI cZ cR s) (hts : ∀ x ∈ wsX5_weigh, x.before args s = true) : va_CN rmX5_weigh s args RX5 41 yX4_inPan "RainShelves" cX4_inPan 4 (some .int) wsX4_inPan rmX4_inPan 0 0 1 ∧ (Cond.instanceMethod yX4_inPan).before args s = true ∧ (Cond.selects RX4 yX4_inPan yX4_inPan).before args s = true := ⟨va_cnB 1 hts gX5_weigh_X4_inPan_n41 rfl rfl rfl (hE.nm 32 rfl) (hts (.initialized RX4) (List.mem_of_getElem? (i := 13) rfl)) (by decide +kernel) ⟨Nat.le_of_ble_eq_true rfl, Nat.le_of_ble_eq_true rfl⟩, hts (.instanceMethod yX4_inPan) (List.mem_of_getElem? (i := 12) rfl), hts (.selects RX4 yX4_inPan yX4_inPan) (List.mem_of_getElem? (i := 14) rfl)⟩
theorem cw_X5_weigh_X2_hailPans_28 {s : State} {args : Array Value} {D : va_G} {cI cZ cR : ClassId} (hE : EV D cI cZ cR s) (hts : ∀ x ∈ wsX5_weigh, x.before args s = true) : va_CN rmX5_weigh s args RX5 28 yX2_hailPans "RainShelves" cX2_hailPans 3 (some .int) wsX2_hailPans rmX2_hailPans 0 0 0 ∧ (Cond.instanceMethod yX2_hailPans).before args s = true ∧ (Cond.selects RX2 yX2_hailPans yX2_hailPans).before args s = true := ⟨va_cnB 0 hts gX5_weigh_X2_hailPans_n28 rfl rfl rfl (hE.nm 31 rfl) (hts (.initialized RX2) (List.mem_of_getElem? (i := 7) rfl)) (by decide +kernel) ⟨Nat.le_of_ble_eq_true rfl, Nat.le_of_ble_eq_true rfl⟩, hts (.instanceMethod yX2_hailPans) (List.mem_of_getElem? (i := 6) rfl), hts (.selects RX2 yX2_hailPans yX2_hailPans) (List.mem_of_getElem? (i := 8) rfl)⟩
set_option maxRecDepth 100000 in
set_option maxHeartbeats 4000000 in
theorem c_X5_weigh (l : Launch) (D : va_G) (cI cZ cR : ClassId) (a_sets : Nat) (a_house : Nat) (a_rain : Nat) (a_house_sorts : Nat) (a_sets_weights : Nat) (a_rain_spoons : Nat) (a_sets_fewest : Nat) (a_house_years : Nat) (a_house_spoons : Nat) (a_house_shrinks : Nat) (a_house_byAge : Nat) (sets_size : Int32) (sets_shelf : Int32) (sets_hail : Int32) (sets_filled : Int32) (house_pans : Int32) (house_least : Int32) (house_shelf : Int32) (house_sorts : Nat → Int32) (sets_weights : Nat → Int32) (rain_springs : Int32) (rain_lost : Int32) (rain_spoons : Nat → Int32) (out : Int32 × Int32 × Int32 × Int32 × (Nat → Int32)) (hf : f_X5_weigh house_pans house_shelf house_sorts sets_weights rain_spoons = some out) : Cv l yX5_weigh wsX5_weigh rmX5_weigh D cI cZ cR [.ref a_sets, .ref a_house, .ref a_rain] [(a_sets, .inr (5, [.ref a_sets_weights, .ref a_sets_fewest, .int sets_size, .int sets_shelf, .int sets_hail, .int sets_filled])), (a_house, .inr (2, [.int house_pans, .int house_least, .int house_shelf, .ref a_house_years, .ref a_house_spoons, .ref a_house_shrinks, .ref a_house_sorts, .ref a_house_byAge])), (a_house_sorts, .inl (cI, 7, .inl house_sorts)), (a_sets_weights, .inl (cI, 128, .inl sets_weights)), (a_rain, .inr (4, [.ref a_house, .ref a_rain_spoons, .int rain_springs, .int rain_lost])), (a_rain_spoons, .inl (cI, 49, .inl rain_spoons))] [(a_sets, .inr (5, [.ref a_sets_weights, .ref a_sets_fewest, .int out.1, .int out.2.1, .int out.2.2.1, .int out.2.2.2.1])), (a_house, .inr (2, [.int house_pans, .int house_least, .int house_shelf, .ref a_house_years, .ref a_house_spoons, .ref a_house_shrinks, .ref a_house_sorts, .ref a_house_byAge])), (a_house_sorts, .inl (cI, 7, .inl house_sorts)), (a_sets_weights, .inl (cI, 128, .inl out.2.2.2.2)), (a_rain, .inr (4, [.ref a_house, .ref a_rain_spoons, .int rain_springs, .int rain_lost])), (a_rain_spoons, .inl (cI, 49, .inl rain_spoons))] := by
  refine ent_v (cc := cX5_weigh) (maxL := 6) (by decide) rfl (Nat.le_of_ble_eq_true rfl) ?_
  intro p e s m below meth c A Q hx hb hml hown hts hE hA hP hD hS hret ls hl
  have hown : s.vm.findClass RX5 = some m.cls := hown
  have hl : lv_has ls 6 [(0, .ref a_sets), (1, .ref a_house), (2, .ref a_rain)] := hl
  have fL9 := hts (.fieldLink RX5 9 "RainShelves$Sets" "weights" "[I") (List.mem_of_getElem? (i := 5) rfl)
  have fL18 := hts (.fieldLink RX5 18 "RainShelves$Sets" "size" "I") (List.mem_of_getElem? (i := 1) rfl)
  have fL22 : (Cond.fieldLinkNest RX5 22 "RainShelves$House" "shelf" "I" "RainShelves").before ([.ref a_sets, .ref a_house, .ref a_rain] : List Value).toArray s = true := hE.nf 7 rfl
  have fL27 := hts (.fieldLink RX5 27 "RainShelves$Sets" "shelf" "I") (List.mem_of_getElem? (i := 2) rfl)
  have fL32 := hts (.fieldLink RX5 32 "RainShelves$Sets" "hail" "I") (List.mem_of_getElem? (i := 3) rfl)
  have fL35 := hts (.fieldLink RX5 35 "RainShelves$Sets" "filled" "I") (List.mem_of_getElem? (i := 4) rfl)
  have fL38 : (Cond.fieldLinkNest RX5 38 "RainShelves$House" "pans" "I" "RainShelves").before ([.ref a_sets, .ref a_house, .ref a_rain] : List Value).toArray s = true := hE.nf 0 rfl
  unfold f_X5_weigh at hf
  have L35 : ∀ (sets_shelf_35 : Int32) (sets_hail_35 : Int32) (n35 : Nat) (v3_35 : Int32) (sets_size_35 : Int32) (sets_filled_35 : Int32) (sets_weights_35 : Nat → Int32), f_X5_weigh_L35 house_pans rain_spoons sets_shelf_35 sets_hail_35 n35 v3_35 sets_size_35 sets_filled_35 sets_weights_35 = some out → ∀ (H : Heap) (locs : List Loc) (ls : Array Slot), PD D A [(a_sets, .inr (5, [.ref a_sets_weights, .ref a_sets_fewest, .int sets_size_35, .int sets_shelf_35, .int sets_hail_35, .int sets_filled_35])), (a_house, .inr (2, [.int house_pans, .int house_least, .int house_shelf, .ref a_house_years, .ref a_house_spoons, .ref a_house_shrinks, .ref a_house_sorts, .ref a_house_byAge])), (a_house_sorts, .inl (cI, 7, .inl house_sorts)), (a_sets_weights, .inl (cI, 128, .inl sets_weights_35)), (a_rain, .inr (4, [.ref a_house, .ref a_rain_spoons, .int rain_springs, .int rain_lost])), (a_rain_spoons, .inl (cI, 49, .inl rain_spoons))] H → va_S A s.heap H locs → lv_has ls 6 [(0, .ref a_sets), (1, .ref a_house), (2, .ref a_rain), (3, .int v3_35)] → W p l e rmX5_weigh s m ([.ref a_sets, .ref a_house, .ref a_rain] : List Value).toArray below meth c H locs 0 0 Q (F0 m 35 ls []) := by
    intro sets_shelf_35 sets_hail_35 n35
    induction n35 with
    | zero => intro v3_35 sets_size_35 sets_filled_35 sets_weights_35 hf; cases hf
    | succ n35 ih35 =>
      intro v3_35 sets_size_35 sets_filled_35 sets_weights_35 hf H locs ls hPD hS hl
      obtain ⟨hP, hD⟩ := hPD
      have hf : f_X5_weigh_B35 house_pans rain_spoons sets_shelf_35 sets_hail_35 (f_X5_weigh_L35 house_pans rain_spoons sets_shelf_35 sets_hail_35 n35) v3_35 sets_size_35 sets_filled_35 sets_weights_35 = some out := hf
      unfold f_X5_weigh_B35 at hf
      have J108 : ∀ (sets_filled_108 : Int32) (sets_weights_108 : Nat → Int32), f_X5_weigh_J108 v3_35 sets_size_35 (f_X5_weigh_L35 house_pans rain_spoons sets_shelf_35 sets_hail_35 n35) sets_filled_108 sets_weights_108 = some out → ∀ (H : Heap) (locs : List Loc) (ls : Array Slot), PD D A [(a_sets, .inr (5, [.ref a_sets_weights, .ref a_sets_fewest, .int sets_size_35, .int sets_shelf_35, .int sets_hail_35, .int sets_filled_108])), (a_house, .inr (2, [.int house_pans, .int house_least, .int house_shelf, .ref a_house_years, .ref a_house_spoons, .ref a_house_shrinks, .ref a_house_sorts, .ref a_house_byAge])), (a_house_sorts, .inl (cI, 7, .inl house_sorts)), (a_sets_weights, .inl (cI, 128, .inl sets_weights_108)), (a_rain, .inr (4, [.ref a_house, .ref a_rain_spoons, .int rain_springs, .int rain_lost])), (a_rain_spoons, .inl (cI, 49, .inl rain_spoons))] H → va_S A s.heap H locs → lv_has ls 6 [(0, .ref a_sets), (1, .ref a_house), (2, .ref a_rain), (3, .int v3_35)] → W p l e rmX5_weigh s m ([.ref a_sets, .ref a_house, .ref a_rain] : List Value).toArray below meth c H locs 0 0 Q (F0 m 108 ls []) := by
        intro sets_filled_108 sets_weights_108 hf H locs ls hPD hS hl
        obtain ⟨hP, hD⟩ := hPD
        unfold f_X5_weigh_J108 at hf
        refine lv_aload_n hx hb dX5_weigh_108 rfl (lv_at hl 0 rfl) ?_
        refine lv_dup hx hb dX5_weigh_109 rfl ?_
        refine va_get (D := D) (ci := 5) (v := .int sets_size_35) (C := RX5) (T := TX5) (N := 6) hx hb hts hiX5_weigh_5 hown hE.1 hP 0 rfl rfl 2 (by decide) fL18 (fun _ h9 => h9) rfl dX5_weigh_110 ?_
        refine lv_iconst (v := 2) hx hb dX5_weigh_113 (by decide) ?_
        refine lv_imul hx hb dX5_weigh_114 ?_
        refine va_put (D := D) (ci := 5) (v := .int (sets_size_35 * 2)) (ty := .int) (C := RX5) (T := TX5) (N := 6) hx hb hts hiX5_weigh_5 tyX5 tyX5_ok nmX5 hown hE.1 hP hD hS 0 rfl rfl 2 (by decide) fL18 (fun _ h9 => h9) rfl (tyX5_ok 2 (by decide)) rfl rfl (Nat.le_of_ble_eq_true rfl) dX5_weigh_115 (fun H locs hP hD hS => ?_)
        have hPD : PD D A [(a_sets, .inr (5, [.ref a_sets_weights, .ref a_sets_fewest, .int (sets_size_35 * 2), .int sets_shelf_35, .int sets_hail_35, .int sets_filled_108])), (a_house, .inr (2, [.int house_pans, .int house_least, .int house_shelf, .ref a_house_years, .ref a_house_spoons, .ref a_house_shrinks, .ref a_house_sorts, .ref a_house_byAge])), (a_house_sorts, .inl (cI, 7, .inl house_sorts)), (a_sets_weights, .inl (cI, 128, .inl sets_weights_108)), (a_rain, .inr (4, [.ref a_house, .ref a_rain_spoons, .int rain_springs, .int rain_lost])), (a_rain_spoons, .inl (cI, 49, .inl rain_spoons))] H := ⟨hP, hD⟩
        obtain ⟨hP, hD⟩ := hPD
        refine lv_iinc (v := (v3_35 + 1)) (lv' := [(3, .int (v3_35 + 1)), (0, .ref a_sets), (1, .ref a_house), (2, .ref a_rain)]) hx hb dX5_weigh_118 hl (k := 3) rfl (ii_p1 _) (by decide) rfl (fun ls hl => ?_)
        refine lv_goto (tgt := 35) hx hb dX5_weigh_121 (by decide) ?_
        exact ih35 (v3_35 + 1) (sets_size_35 * 2) sets_filled_108 sets_weights_108 hf _ _ _ ⟨hP, hD⟩ hS (lv_sub hl [1, 2, 3, 0] rfl)
      have J90 : ∀ (v4_90 : Int32) (sets_weights_90 : Nat → Int32), f_X5_weigh_J90 v3_35 sets_size_35 sets_filled_35 (f_X5_weigh_L35 house_pans rain_spoons sets_shelf_35 sets_hail_35 n35) v4_90 sets_weights_90 = some out → ∀ (H : Heap) (locs : List Loc) (ls : Array Slot), PD D A [(a_sets, .inr (5, [.ref a_sets_weights, .ref a_sets_fewest, .int sets_size_35, .int sets_shelf_35, .int sets_hail_35, .int sets_filled_35])), (a_house, .inr (2, [.int house_pans, .int house_least, .int house_shelf, .ref a_house_years, .ref a_house_spoons, .ref a_house_shrinks, .ref a_house_sorts, .ref a_house_byAge])), (a_house_sorts, .inl (cI, 7, .inl house_sorts)), (a_sets_weights, .inl (cI, 128, .inl sets_weights_90)), (a_rain, .inr (4, [.ref a_house, .ref a_rain_spoons, .int rain_springs, .int rain_lost])), (a_rain_spoons, .inl (cI, 49, .inl rain_spoons))] H → va_S A s.heap H locs → lv_has ls 6 [(0, .ref a_sets), (1, .ref a_house), (2, .ref a_rain), (3, .int v3_35), (4, .int v4_90)] → W p l e rmX5_weigh s m ([.ref a_sets, .ref a_house, .ref a_rain] : List Value).toArray below meth c H locs 0 0 Q (F0 m 90 ls []) := by
        intro v4_90 sets_weights_90 hf H locs ls hPD hS hl
        obtain ⟨hP, hD⟩ := hPD
        unfold f_X5_weigh_J90 at hf
        refine lv_iload hx hb dX5_weigh_90 (lv_at hl 4 rfl) ?_
        refine lv_if_le (tgt := 108) hx hb dX5_weigh_92 (by decide) (fun hc1 => ?_) (fun hc1 => ?_)
        · have hf := if_t hf hc1
          exact J108 sets_filled_35 sets_weights_90 hf _ _ _ ⟨hP, hD⟩ hS (lv_sub hl [0, 1, 2, 3] rfl)
        · have hf := if_f hf hc1
          refine lv_aload_n hx hb dX5_weigh_95 rfl (lv_at hl 0 rfl) ?_
          refine lv_dup hx hb dX5_weigh_96 rfl ?_
          refine va_get (D := D) (ci := 5) (v := .int sets_filled_35) (C := RX5) (T := TX5) (N := 6) hx hb hts hiX5_weigh_5 hown hE.1 hP 0 rfl rfl 5 (by decide) fL35 (fun _ h9 => h9) rfl dX5_weigh_97 ?_
          refine lv_aload_n hx hb dX5_weigh_100 rfl (lv_at hl 0 rfl) ?_
          refine va_get (D := D) (ci := 5) (v := .int sets_size_35) (C := RX5) (T := TX5) (N := 6) hx hb hts hiX5_weigh_5 hown hE.1 hP 0 rfl rfl 2 (by decide) fL18 (fun _ h9 => h9) rfl dX5_weigh_101 ?_
          refine lv_ior hx hb dX5_weigh_104 ?_
          refine va_put (D := D) (ci := 5) (v := .int (sets_filled_35 ||| sets_size_35)) (ty := .int) (C := RX5) (T := TX5) (N := 6) hx hb hts hiX5_weigh_5 tyX5 tyX5_ok nmX5 hown hE.1 hP hD hS 0 rfl rfl 5 (by decide) fL35 (fun _ h9 => h9) rfl (tyX5_ok 5 (by decide)) rfl rfl (Nat.le_of_ble_eq_true rfl) dX5_weigh_105 (fun H locs hP hD hS => ?_)
          have hPD : PD D A [(a_sets, .inr (5, [.ref a_sets_weights, .ref a_sets_fewest, .int sets_size_35, .int sets_shelf_35, .int sets_hail_35, .int (sets_filled_35 ||| sets_size_35)])), (a_house, .inr (2, [.int house_pans, .int house_least, .int house_shelf, .ref a_house_years, .ref a_house_spoons, .ref a_house_shrinks, .ref a_house_sorts, .ref a_house_byAge])), (a_house_sorts, .inl (cI, 7, .inl house_sorts)), (a_sets_weights, .inl (cI, 128, .inl sets_weights_90)), (a_rain, .inr (4, [.ref a_house, .ref a_rain_spoons, .int rain_springs, .int rain_lost])), (a_rain_spoons, .inl (cI, 49, .inl rain_spoons))] H := ⟨hP, hD⟩
          obtain ⟨hP, hD⟩ := hPD
          exact J108 (sets_filled_35 ||| sets_size_35) sets_weights_90 hf _ _ _ ⟨hP, hD⟩ hS (lv_sub hl [0, 1, 2, 3] rfl)
      have L53 : ∀ (v4_53 : Int32) (n53 : Nat) (v5_53 : Int32) (sets_weights_53 : Nat → Int32), f_X5_weigh_L53 v3_35 sets_size_35 sets_filled_35 (f_X5_weigh_L35 house_pans rain_spoons sets_shelf_35 sets_hail_35 n35) v4_53 n53 v5_53 sets_weights_53 = some out → ∀ (H : Heap) (locs : List Loc) (ls : Array Slot), PD D A [(a_sets, .inr (5, [.ref a_sets_weights, .ref a_sets_fewest, .int sets_size_35, .int sets_shelf_35, .int sets_hail_35, .int sets_filled_35])), (a_house, .inr (2, [.int house_pans, .int house_least, .int house_shelf, .ref a_house_years, .ref a_house_spoons, .ref a_house_shrinks, .ref a_house_sorts, .ref a_house_byAge])), (a_house_sorts, .inl (cI, 7, .inl house_sorts)), (a_sets_weights, .inl (cI, 128, .inl sets_weights_53)), (a_rain, .inr (4, [.ref a_house, .ref a_rain_spoons, .int rain_springs, .int rain_lost])), (a_rain_spoons, .inl (cI, 49, .inl rain_spoons))] H → va_S A s.heap H locs → lv_has ls 6 [(0, .ref a_sets), (1, .ref a_house), (2, .ref a_rain), (3, .int v3_35), (4, .int v4_53), (5, .int v5_53)] → W p l e rmX5_weigh s m ([.ref a_sets, .ref a_house, .ref a_rain] : List Value).toArray below meth c H locs 0 0 Q (F0 m 53 ls []) := by
        intro v4_53 n53
        induction n53 with
        | zero => intro v5_53 sets_weights_53 hf; cases hf
        | succ n53 ih53 =>
          intro v5_53 sets_weights_53 hf H locs ls hPD hS hl
          obtain ⟨hP, hD⟩ := hPD
          have hf : f_X5_weigh_B53 v3_35 sets_size_35 sets_filled_35 (f_X5_weigh_L35 house_pans rain_spoons sets_shelf_35 sets_hail_35 n35) v4_53 (f_X5_weigh_L53 v3_35 sets_size_35 sets_filled_35 (f_X5_weigh_L35 house_pans rain_spoons sets_shelf_35 sets_hail_35 n35) v4_53 n53) v5_53 sets_weights_53 = some out := hf
          unfold f_X5_weigh_B53 at hf
          refine lv_iload hx hb dX5_weigh_53 (lv_at hl 5 rfl) ?_
          refine lv_aload_n hx hb dX5_weigh_55 rfl (lv_at hl 0 rfl) ?_
          refine va_get (D := D) (ci := 5) (v := .int sets_size_35) (C := RX5) (T := TX5) (N := 6) hx hb hts hiX5_weigh_5 hown hE.1 hP 0 rfl rfl 2 (by decide) fL18 (fun _ h9 => h9) rfl dX5_weigh_56 ?_
          refine lv_icmp_ge (tgt := 90) hx hb dX5_weigh_59 (by decide) (fun hc2 => ?_) (fun hc2 => ?_)
          · have hf := if_t hf hc2
            exact J90 v4_53 sets_weights_53 hf _ _ _ ⟨hP, hD⟩ hS (lv_sub hl [0, 1, 2, 3, 4] rfl)
          · have hf := if_f hf hc2
            refine lv_aload_n hx hb dX5_weigh_62 rfl (lv_at hl 0 rfl) ?_
            refine va_get (D := D) (ci := 5) (v := .ref a_sets_weights) (C := RX5) (T := TX5) (N := 6) hx hb hts hiX5_weigh_5 hown hE.1 hP 0 rfl rfl 0 (by decide) fL9 (fun _ h9 => h9) rfl dX5_weigh_63 ?_
            refine lv_aload_n hx hb dX5_weigh_66 rfl (lv_at hl 0 rfl) ?_
            refine va_get (D := D) (ci := 5) (v := .int sets_size_35) (C := RX5) (T := TX5) (N := 6) hx hb hts hiX5_weigh_5 hown hE.1 hP 0 rfl rfl 2 (by decide) fL18 (fun _ h9 => h9) rfl dX5_weigh_67 ?_
            refine lv_iload hx hb dX5_weigh_70 (lv_at hl 5 rfl) ?_
            refine lv_iadd hx hb dX5_weigh_72 ?_
            refine lv_aload_n hx hb dX5_weigh_73 rfl (lv_at hl 0 rfl) ?_
            refine va_get (D := D) (ci := 5) (v := .ref a_sets_weights) (C := RX5) (T := TX5) (N := 6) hx hb hts hiX5_weigh_5 hown hE.1 hP 0 rfl rfl 0 (by decide) fL9 (fun _ h9 => h9) rfl dX5_weigh_74 ?_
            refine lv_iload hx hb dX5_weigh_77 (lv_at hl 5 rfl) ?_
            obtain ⟨hc3, hf⟩ := ck_some hf
            refine va_iald hx hb hE.1 hP 3 0 rfl rfl (ix_in hc3) dX5_weigh_79 ?_
            refine lv_iload hx hb dX5_weigh_80 (lv_at hl 4 rfl) ?_
            refine lv_iadd hx hb dX5_weigh_82 ?_
            obtain ⟨hc4, hf⟩ := ck_some hf
            refine va_iast hx hb hE.1 hP hD hS 3 0 rfl rfl (ix_in hc4) dX5_weigh_83 (fun H locs hP hD hS => ?_)
            have hPD : PD D A [(a_sets, .inr (5, [.ref a_sets_weights, .ref a_sets_fewest, .int sets_size_35, .int sets_shelf_35, .int sets_hail_35, .int sets_filled_35])), (a_house, .inr (2, [.int house_pans, .int house_least, .int house_shelf, .ref a_house_years, .ref a_house_spoons, .ref a_house_shrinks, .ref a_house_sorts, .ref a_house_byAge])), (a_house_sorts, .inl (cI, 7, .inl house_sorts)), (a_sets_weights, .inl (cI, 128, .inl (upd sets_weights_53 (sets_size_35 + v5_53).toNatClampNeg ((sets_weights_53 v5_53.toNatClampNeg) + v4_53)))), (a_rain, .inr (4, [.ref a_house, .ref a_rain_spoons, .int rain_springs, .int rain_lost])), (a_rain_spoons, .inl (cI, 49, .inl rain_spoons))] H := ⟨hP, hD⟩
            obtain ⟨hP, hD⟩ := hPD
            refine lv_iinc (v := (v5_53 + 1)) (lv' := [(5, .int (v5_53 + 1)), (0, .ref a_sets), (1, .ref a_house), (2, .ref a_rain), (3, .int v3_35), (4, .int v4_53)]) hx hb dX5_weigh_84 hl (k := 5) rfl (ii_p1 _) (by decide) rfl (fun ls hl => ?_)
            refine lv_goto (tgt := 53) hx hb dX5_weigh_87 (by decide) ?_
            exact ih53 (v5_53 + 1) (upd sets_weights_53 (sets_size_35 + v5_53).toNatClampNeg ((sets_weights_53 v5_53.toNatClampNeg) + v4_53)) hf _ _ _ ⟨hP, hD⟩ hS (lv_sub hl [1, 2, 3, 4, 5, 0] rfl)
      refine lv_iload_n hx hb dX5_weigh_35 rfl (lv_at hl 3 rfl) ?_
      refine lv_aload_n hx hb dX5_weigh_36 rfl (lv_at hl 1 rfl) ?_
      refine va_getN (D := D) (ci := 2) (v := .int house_pans) (C := RX2) (T := TX2) (N := 8) hx hb hts hiX5_weigh_2 hown hE.1 hP 1 rfl rfl 0 (by decide) fL38 (fun _ h9 => h9) rfl dX5_weigh_37 ?_
      refine lv_icmp_ge (tgt := 124) hx hb dX5_weigh_40 (by decide) (fun hc5 => ?_) (fun hc5 => ?_)
      · have hf := if_t hf hc5
        have he := Option.some.inj hf
        subst he
        exact hret _ _ _ _ dX5_weigh_124 hP hD hS
      · have hf := if_f hf hc5
        refine lv_aload_n hx hb dX5_weigh_43 rfl (lv_at hl 2 rfl) ?_
        refine lv_iload_n hx hb dX5_weigh_44 rfl (lv_at hl 3 rfl) ?_
        obtain ⟨u1, hu1, hf⟩ := bd_some hf
        refine cl_iN (As := [.int v3_35]) (rest := []) ⟨hx, hb, hml, hown, hts⟩ (c_X4_inPan l D cI cZ cR a_rain a_house a_rain_spoons a_house_years a_house_spoons a_house_shrinks a_house_sorts a_house_byAge rain_springs rain_lost house_pans house_least house_shelf rain_spoons v3_35 u1 hu1) (cw_X5_weigh_X4_inPan_41 hE hts) hE hP hD hS hA [4, 1, 5] rfl rfl [a_rain, a_house, a_rain_spoons] rfl rfl 4 4 rfl rfl rfl hl.1 rfl (Nat.le_of_ble_eq_true rfl) dX5_weigh_45 ⟨Nat.zero_le _, Nat.zero_le _⟩ (fun H locs hP hD hS => ?_)
        have hPD : PD D A [(a_sets, .inr (5, [.ref a_sets_weights, .ref a_sets_fewest, .int sets_size_35, .int sets_shelf_35, .int sets_hail_35, .int sets_filled_35])), (a_house, .inr (2, [.int house_pans, .int house_least, .int house_shelf, .ref a_house_years, .ref a_house_spoons, .ref a_house_shrinks, .ref a_house_sorts, .ref a_house_byAge])), (a_house_sorts, .inl (cI, 7, .inl house_sorts)), (a_sets_weights, .inl (cI, 128, .inl sets_weights_35)), (a_rain, .inr (4, [.ref a_house, .ref a_rain_spoons, .int rain_springs, .int rain_lost])), (a_rain_spoons, .inl (cI, 49, .inl rain_spoons))] H := ⟨hP, hD⟩
        obtain ⟨hP, hD⟩ := hPD
        refine lv_istore (lv' := [(4, .int u1), (0, .ref a_sets), (1, .ref a_house), (2, .ref a_rain), (3, .int v3_35)]) hx hb dX5_weigh_48 hl (by decide) rfl (fun ls hl => ?_)
        refine lv_iconst (v := 0) hx hb dX5_weigh_50 (by decide) ?_
        refine lv_istore (lv' := [(5, .int 0), (4, .int u1), (0, .ref a_sets), (1, .ref a_house), (2, .ref a_rain), (3, .int v3_35)]) hx hb dX5_weigh_51 hl (by decide) rfl (fun ls hl => ?_)
        exact L53 u1 FU 0 sets_weights_35 hf _ _ _ ⟨hP, hD⟩ hS (lv_sub hl [2, 3, 4, 5, 1, 0] rfl)
  refine lv_aload_n hx hb dX5_weigh_0 rfl (lv_at hl 0 rfl) ?_
  refine lv_iconst (v := 1) hx hb dX5_weigh_1 (by decide) ?_
  refine va_put (D := D) (ci := 5) (v := .int 1) (ty := .int) (C := RX5) (T := TX5) (N := 6) hx hb hts hiX5_weigh_5 tyX5 tyX5_ok nmX5 hown hE.1 hP hD hS 0 rfl rfl 2 (by decide) fL18 (fun _ h9 => h9) rfl (tyX5_ok 2 (by decide)) rfl rfl (Nat.le_of_ble_eq_true rfl) dX5_weigh_2 (fun H locs hP hD hS => ?_)
  have hPD : PD D A [(a_sets, .inr (5, [.ref a_sets_weights, .ref a_sets_fewest, .int 1, .int sets_shelf, .int sets_hail, .int sets_filled])), (a_house, .inr (2, [.int house_pans, .int house_least, .int house_shelf, .ref a_house_years, .ref a_house_spoons, .ref a_house_shrinks, .ref a_house_sorts, .ref a_house_byAge])), (a_house_sorts, .inl (cI, 7, .inl house_sorts)), (a_sets_weights, .inl (cI, 128, .inl sets_weights)), (a_rain, .inr (4, [.ref a_house, .ref a_rain_spoons, .int rain_springs, .int rain_lost])), (a_rain_spoons, .inl (cI, 49, .inl rain_spoons))] H := ⟨hP, hD⟩
  obtain ⟨hP, hD⟩ := hPD
  refine lv_aload_n hx hb dX5_weigh_5 rfl (lv_at hl 0 rfl) ?_
  refine lv_aload_n hx hb dX5_weigh_6 rfl (lv_at hl 1 rfl) ?_
  refine va_getN (D := D) (ci := 2) (v := .int house_shelf) (C := RX2) (T := TX2) (N := 8) hx hb hts hiX5_weigh_2 hown hE.1 hP 1 rfl rfl 2 (by decide) fL22 (fun _ h9 => h9) rfl dX5_weigh_7 ?_
  refine va_put (D := D) (ci := 5) (v := .int house_shelf) (ty := .int) (C := RX5) (T := TX5) (N := 6) hx hb hts hiX5_weigh_5 tyX5 tyX5_ok nmX5 hown hE.1 hP hD hS 0 rfl rfl 3 (by decide) fL27 (fun _ h9 => h9) rfl (tyX5_ok 3 (by decide)) rfl rfl (Nat.le_of_ble_eq_true rfl) dX5_weigh_10 (fun H locs hP hD hS => ?_)
  have hPD : PD D A [(a_sets, .inr (5, [.ref a_sets_weights, .ref a_sets_fewest, .int 1, .int house_shelf, .int sets_hail, .int sets_filled])), (a_house, .inr (2, [.int house_pans, .int house_least, .int house_shelf, .ref a_house_years, .ref a_house_spoons, .ref a_house_shrinks, .ref a_house_sorts, .ref a_house_byAge])), (a_house_sorts, .inl (cI, 7, .inl house_sorts)), (a_sets_weights, .inl (cI, 128, .inl sets_weights)), (a_rain, .inr (4, [.ref a_house, .ref a_rain_spoons, .int rain_springs, .int rain_lost])), (a_rain_spoons, .inl (cI, 49, .inl rain_spoons))] H := ⟨hP, hD⟩
  obtain ⟨hP, hD⟩ := hPD
  refine lv_aload_n hx hb dX5_weigh_13 rfl (lv_at hl 0 rfl) ?_
  refine lv_aload_n hx hb dX5_weigh_14 rfl (lv_at hl 1 rfl) ?_
  obtain ⟨u2, hu2, hf⟩ := bd_some hf
  refine cl_iN (As := []) (rest := [.ref a_sets]) ⟨hx, hb, hml, hown, hts⟩ (c_X2_hailPans l D cI cZ cR a_house a_house_sorts a_house_years a_house_spoons a_house_shrinks a_house_byAge house_pans house_least house_shelf house_sorts  u2 hu2) (cw_X5_weigh_X2_hailPans_28 hE hts) hE hP hD hS hA [1, 2] rfl rfl [a_house, a_house_sorts] rfl rfl 1 2 rfl rfl rfl hl.1 rfl (Nat.le_of_ble_eq_true rfl) dX5_weigh_15 ⟨Nat.zero_le _, Nat.zero_le _⟩ (fun H locs hP hD hS => ?_)
  have hPD : PD D A [(a_sets, .inr (5, [.ref a_sets_weights, .ref a_sets_fewest, .int 1, .int house_shelf, .int sets_hail, .int sets_filled])), (a_house, .inr (2, [.int house_pans, .int house_least, .int house_shelf, .ref a_house_years, .ref a_house_spoons, .ref a_house_shrinks, .ref a_house_sorts, .ref a_house_byAge])), (a_house_sorts, .inl (cI, 7, .inl house_sorts)), (a_sets_weights, .inl (cI, 128, .inl sets_weights)), (a_rain, .inr (4, [.ref a_house, .ref a_rain_spoons, .int rain_springs, .int rain_lost])), (a_rain_spoons, .inl (cI, 49, .inl rain_spoons))] H := ⟨hP, hD⟩
  obtain ⟨hP, hD⟩ := hPD
  refine va_put (D := D) (ci := 5) (v := .int u2) (ty := .int) (C := RX5) (T := TX5) (N := 6) hx hb hts hiX5_weigh_5 tyX5 tyX5_ok nmX5 hown hE.1 hP hD hS 0 rfl rfl 4 (by decide) fL32 (fun _ h9 => h9) rfl (tyX5_ok 4 (by decide)) rfl rfl (Nat.le_of_ble_eq_true rfl) dX5_weigh_18 (fun H locs hP hD hS => ?_)
  have hPD : PD D A [(a_sets, .inr (5, [.ref a_sets_weights, .ref a_sets_fewest, .int 1, .int house_shelf, .int u2, .int sets_filled])), (a_house, .inr (2, [.int house_pans, .int house_least, .int house_shelf, .ref a_house_years, .ref a_house_spoons, .ref a_house_shrinks, .ref a_house_sorts, .ref a_house_byAge])), (a_house_sorts, .inl (cI, 7, .inl house_sorts)), (a_sets_weights, .inl (cI, 128, .inl sets_weights)), (a_rain, .inr (4, [.ref a_house, .ref a_rain_spoons, .int rain_springs, .int rain_lost])), (a_rain_spoons, .inl (cI, 49, .inl rain_spoons))] H := ⟨hP, hD⟩
  obtain ⟨hP, hD⟩ := hPD
  refine lv_aload_n hx hb dX5_weigh_21 rfl (lv_at hl 0 rfl) ?_
  refine lv_iconst (v := 0) hx hb dX5_weigh_22 (by decide) ?_
  refine va_put (D := D) (ci := 5) (v := .int 0) (ty := .int) (C := RX5) (T := TX5) (N := 6) hx hb hts hiX5_weigh_5 tyX5 tyX5_ok nmX5 hown hE.1 hP hD hS 0 rfl rfl 5 (by decide) fL35 (fun _ h9 => h9) rfl (tyX5_ok 5 (by decide)) rfl rfl (Nat.le_of_ble_eq_true rfl) dX5_weigh_23 (fun H locs hP hD hS => ?_)
  have hPD : PD D A [(a_sets, .inr (5, [.ref a_sets_weights, .ref a_sets_fewest, .int 1, .int house_shelf, .int u2, .int 0])), (a_house, .inr (2, [.int house_pans, .int house_least, .int house_shelf, .ref a_house_years, .ref a_house_spoons, .ref a_house_shrinks, .ref a_house_sorts, .ref a_house_byAge])), (a_house_sorts, .inl (cI, 7, .inl house_sorts)), (a_sets_weights, .inl (cI, 128, .inl sets_weights)), (a_rain, .inr (4, [.ref a_house, .ref a_rain_spoons, .int rain_springs, .int rain_lost])), (a_rain_spoons, .inl (cI, 49, .inl rain_spoons))] H := ⟨hP, hD⟩
  obtain ⟨hP, hD⟩ := hPD
  refine lv_aload_n hx hb dX5_weigh_26 rfl (lv_at hl 0 rfl) ?_
  refine va_get (D := D) (ci := 5) (v := .ref a_sets_weights) (C := RX5) (T := TX5) (N := 6) hx hb hts hiX5_weigh_5 hown hE.1 hP 0 rfl rfl 0 (by decide) fL9 (fun _ h9 => h9) rfl dX5_weigh_27 ?_
  refine lv_iconst (v := 0) hx hb dX5_weigh_30 (by decide) ?_
  refine lv_iconst (v := 0) hx hb dX5_weigh_31 (by decide) ?_
  obtain ⟨hc6, hf⟩ := ck_some hf
  refine va_iast hx hb hE.1 hP hD hS 3 0 rfl rfl (ix_in hc6) dX5_weigh_32 (fun H locs hP hD hS => ?_)
  have hPD : PD D A [(a_sets, .inr (5, [.ref a_sets_weights, .ref a_sets_fewest, .int 1, .int house_shelf, .int u2, .int 0])), (a_house, .inr (2, [.int house_pans, .int house_least, .int house_shelf, .ref a_house_years, .ref a_house_spoons, .ref a_house_shrinks, .ref a_house_sorts, .ref a_house_byAge])), (a_house_sorts, .inl (cI, 7, .inl house_sorts)), (a_sets_weights, .inl (cI, 128, .inl (upd sets_weights (0 : Int32).toNatClampNeg 0))), (a_rain, .inr (4, [.ref a_house, .ref a_rain_spoons, .int rain_springs, .int rain_lost])), (a_rain_spoons, .inl (cI, 49, .inl rain_spoons))] H := ⟨hP, hD⟩
  obtain ⟨hP, hD⟩ := hPD
  refine lv_iconst (v := 0) hx hb dX5_weigh_33 (by decide) ?_
  refine lv_istore_n (lv' := [(3, .int 0), (0, .ref a_sets), (1, .ref a_house), (2, .ref a_rain)]) hx hb dX5_weigh_34 rfl hl (by decide) rfl (fun ls hl => ?_)
  exact L35 house_shelf u2 FU 0 1 0 (upd sets_weights (0 : Int32).toNatClampNeg 0) hf _ _ _ ⟨hP, hD⟩ hS (lv_sub hl [1, 2, 3, 0] rfl)
abbrev rmJ6_bitCount_0f7a4 : Room := { frames := 0, cells := 0, slots := 0, locals := 0 }
set_option maxRecDepth 100000 in
set_option maxHeartbeats 4000000 in
theorem c_J6_bitCount_0f7a4 (l : Launch) (D : va_G) (cI cZ cR : ClassId) (v0 : Int32) (out : Int32) (hf : f_J6_bitCount_0f7a4 v0 = some out) : Ci l yJ6_bitCount_0f7a4 wsJ6_bitCount_0f7a4 rmJ6_bitCount_0f7a4 D cI cZ cR [.int v0] [] out [] := by
  refine ent_i (cc := cJ6_bitCount_0f7a4) (maxL := 1) .int (by decide) rfl (Nat.le_of_ble_eq_true rfl) ?_
  intro p e s m below meth c A Q hx hb hml hown hts hE hA hP hD hS hret ls hl
  have hown : s.vm.findClass RJ6 = some m.cls := hown
  have hl : lv_has ls 1 [(0, .int v0)] := hl
  have cL265 := hts (.constant RJ6 265 (1431655765)) (List.mem_of_getElem? (i := 1) rfl)
  have cL266 := hts (.constant RJ6 266 (858993459)) (List.mem_of_getElem? (i := 2) rfl)
  have cL267 := hts (.constant RJ6 267 (252645135)) (List.mem_of_getElem? (i := 3) rfl)
  unfold f_J6_bitCount_0f7a4 at hf
  refine lv_iload_n hx hb dJ6_bitCount_0f7a4_0 rfl (lv_at hl 0 rfl) ?_
  refine lv_iload_n hx hb dJ6_bitCount_0f7a4_1 rfl (lv_at hl 0 rfl) ?_
  refine lv_iconst (v := 1) hx hb dJ6_bitCount_0f7a4_2 (by decide) ?_
  refine lv_iushr (v := (v0.toUInt32 >>> ((1 : Int32).toUInt32 &&& Int32.toUInt32 31)).toInt32) hx hb dJ6_bitCount_0f7a4_3 rfl ?_
  refine lv_ldcw (v := 1431655765) hx hb hown cL265 dJ6_bitCount_0f7a4_4 ?_
  refine lv_iand hx hb dJ6_bitCount_0f7a4_7 ?_
  refine lv_isub hx hb dJ6_bitCount_0f7a4_8 ?_
  refine lv_istore_n (lv' := [(0, .int (v0 - ((v0.toUInt32 >>> ((1 : Int32).toUInt32 &&& Int32.toUInt32 31)).toInt32 &&& 1431655765)))]) hx hb dJ6_bitCount_0f7a4_9 rfl hl (by decide) rfl (fun ls hl => ?_)
  refine lv_iload_n hx hb dJ6_bitCount_0f7a4_10 rfl (lv_at hl 0 rfl) ?_
  refine lv_ldcw (v := 858993459) hx hb hown cL266 dJ6_bitCount_0f7a4_11 ?_
  refine lv_iand hx hb dJ6_bitCount_0f7a4_14 ?_
  refine lv_iload_n hx hb dJ6_bitCount_0f7a4_15 rfl (lv_at hl 0 rfl) ?_
  refine lv_iconst (v := 2) hx hb dJ6_bitCount_0f7a4_16 (by decide) ?_
  refine lv_iushr (v := ((v0 - ((v0.toUInt32 >>> ((1 : Int32).toUInt32 &&& Int32.toUInt32 31)).toInt32 &&& 1431655765)).toUInt32 >>> ((2 : Int32).toUInt32 &&& Int32.toUInt32 31)).toInt32) hx hb dJ6_bitCount_0f7a4_17 rfl ?_
  refine lv_ldcw (v := 858993459) hx hb hown cL266 dJ6_bitCount_0f7a4_18 ?_
  refine lv_iand hx hb dJ6_bitCount_0f7a4_21 ?_
  refine lv_iadd hx hb dJ6_bitCount_0f7a4_22 ?_
  refine lv_istore_n (lv' := [(0, .int (((v0 - ((v0.toUInt32 >>> ((1 : Int32).toUInt32 &&& Int32.toUInt32 31)).toInt32 &&& 1431655765)) &&& 858993459) + (((v0 - ((v0.toUInt32 >>> ((1 : Int32).toUInt32 &&& Int32.toUInt32 31)).toInt32 &&& 1431655765)).toUInt32 >>> ((2 : Int32).toUInt32 &&& Int32.toUInt32 31)).toInt32 &&& 858993459)))]) hx hb dJ6_bitCount_0f7a4_23 rfl hl (by decide) rfl (fun ls hl => ?_)
  refine lv_iload_n hx hb dJ6_bitCount_0f7a4_24 rfl (lv_at hl 0 rfl) ?_
  refine lv_iload_n hx hb dJ6_bitCount_0f7a4_25 rfl (lv_at hl 0 rfl) ?_
  refine lv_iconst (v := 4) hx hb dJ6_bitCount_0f7a4_26 (by decide) ?_
  refine lv_iushr (v := ((((v0 - ((v0.toUInt32 >>> ((1 : Int32).toUInt32 &&& Int32.toUInt32 31)).toInt32 &&& 1431655765)) &&& 858993459) + (((v0 - ((v0.toUInt32 >>> ((1 : Int32).toUInt32 &&& Int32.toUInt32 31)).toInt32 &&& 1431655765)).toUInt32 >>> ((2 : Int32).toUInt32 &&& Int32.toUInt32 31)).toInt32 &&& 858993459)).toUInt32 >>> ((4 : Int32).toUInt32 &&& Int32.toUInt32 31)).toInt32) hx hb dJ6_bitCount_0f7a4_27 rfl ?_
  refine lv_iadd hx hb dJ6_bitCount_0f7a4_28 ?_
  refine lv_ldcw (v := 252645135) hx hb hown cL267 dJ6_bitCount_0f7a4_29 ?_
  refine lv_iand hx hb dJ6_bitCount_0f7a4_32 ?_
  refine lv_istore_n (lv' := [(0, .int (((((v0 - ((v0.toUInt32 >>> ((1 : Int32).toUInt32 &&& Int32.toUInt32 31)).toInt32 &&& 1431655765)) &&& 858993459) + (((v0 - ((v0.toUInt32 >>> ((1 : Int32).toUInt32 &&& Int32.toUInt32 31)).toInt32 &&& 1431655765)).toUInt32 >>> ((2 : Int32).toUInt32 &&& Int32.toUInt32 31)).toInt32 &&& 858993459)) + ((((v0 - ((v0.toUInt32 >>> ((1 : Int32).toUInt32 &&& Int32.toUInt32 31)).toInt32 &&& 1431655765)) &&& 858993459) + (((v0 - ((v0.toUInt32 >>> ((1 : Int32).toUInt32 &&& Int32.toUInt32 31)).toInt32 &&& 1431655765)).toUInt32 >>> ((2 : Int32).toUInt32 &&& Int32.toUInt32 31)).toInt32 &&& 858993459)).toUInt32 >>> ((4 : Int32).toUInt32 &&& Int32.toUInt32 31)).toInt32) &&& 252645135))]) hx hb dJ6_bitCount_0f7a4_33 rfl hl (by decide) rfl (fun ls hl => ?_)
  refine lv_iload_n hx hb dJ6_bitCount_0f7a4_34 rfl (lv_at hl 0 rfl) ?_
  refine lv_iload_n hx hb dJ6_bitCount_0f7a4_35 rfl (lv_at hl 0 rfl) ?_
  refine lv_bipush (v := 8) hx hb dJ6_bitCount_0f7a4_36 (by decide) ?_
  refine lv_iushr (v := ((((((v0 - ((v0.toUInt32 >>> ((1 : Int32).toUInt32 &&& Int32.toUInt32 31)).toInt32 &&& 1431655765)) &&& 858993459) + (((v0 - ((v0.toUInt32 >>> ((1 : Int32).toUInt32 &&& Int32.toUInt32 31)).toInt32 &&& 1431655765)).toUInt32 >>> ((2 : Int32).toUInt32 &&& Int32.toUInt32 31)).toInt32 &&& 858993459)) + ((((v0 - ((v0.toUInt32 >>> ((1 : Int32).toUInt32 &&& Int32.toUInt32 31)).toInt32 &&& 1431655765)) &&& 858993459) + (((v0 - ((v0.toUInt32 >>> ((1 : Int32).toUInt32 &&& Int32.toUInt32 31)).toInt32 &&& 1431655765)).toUInt32 >>> ((2 : Int32).toUInt32 &&& Int32.toUInt32 31)).toInt32 &&& 858993459)).toUInt32 >>> ((4 : Int32).toUInt32 &&& Int32.toUInt32 31)).toInt32) &&& 252645135).toUInt32 >>> ((8 : Int32).toUInt32 &&& Int32.toUInt32 31)).toInt32) hx hb dJ6_bitCount_0f7a4_38 rfl ?_
  refine lv_iadd hx hb dJ6_bitCount_0f7a4_39 ?_
  refine lv_istore_n (lv' := [(0, .int ((((((v0 - ((v0.toUInt32 >>> ((1 : Int32).toUInt32 &&& Int32.toUInt32 31)).toInt32 &&& 1431655765)) &&& 858993459) + (((v0 - ((v0.toUInt32 >>> ((1 : Int32).toUInt32 &&& Int32.toUInt32 31)).toInt32 &&& 1431655765)).toUInt32 >>> ((2 : Int32).toUInt32 &&& Int32.toUInt32 31)).toInt32 &&& 858993459)) + ((((v0 - ((v0.toUInt32 >>> ((1 : Int32).toUInt32 &&& Int32.toUInt32 31)).toInt32 &&& 1431655765)) &&& 858993459) + (((v0 - ((v0.toUInt32 >>> ((1 : Int32).toUInt32 &&& Int32.toUInt32 31)).toInt32 &&& 1431655765)).toUInt32 >>> ((2 : Int32).toUInt32 &&& Int32.toUInt32 31)).toInt32 &&& 858993459)).toUInt32 >>> ((4 : Int32).toUInt32 &&& Int32.toUInt32 31)).toInt32) &&& 252645135) + ((((((v0 - ((v0.toUInt32 >>> ((1 : Int32).toUInt32 &&& Int32.toUInt32 31)).toInt32 &&& 1431655765)) &&& 858993459) + (((v0 - ((v0.toUInt32 >>> ((1 : Int32).toUInt32 &&& Int32.toUInt32 31)).toInt32 &&& 1431655765)).toUInt32 >>> ((2 : Int32).toUInt32 &&& Int32.toUInt32 31)).toInt32 &&& 858993459)) + ((((v0 - ((v0.toUInt32 >>> ((1 : Int32).toUInt32 &&& Int32.toUInt32 31)).toInt32 &&& 1431655765)) &&& 858993459) + (((v0 - ((v0.toUInt32 >>> ((1 : Int32).toUInt32 &&& Int32.toUInt32 31)).toInt32 &&& 1431655765)).toUInt32 >>> ((2 : Int32).toUInt32 &&& Int32.toUInt32 31)).toInt32 &&& 858993459)).toUInt32 >>> ((4 : Int32).toUInt32 &&& Int32.toUInt32 31)).toInt32) &&& 252645135).toUInt32 >>> ((8 : Int32).toUInt32 &&& Int32.toUInt32 31)).toInt32))]) hx hb dJ6_bitCount_0f7a4_40 rfl hl (by decide) rfl (fun ls hl => ?_)
  refine lv_iload_n hx hb dJ6_bitCount_0f7a4_41 rfl (lv_at hl 0 rfl) ?_
  refine lv_iload_n hx hb dJ6_bitCount_0f7a4_42 rfl (lv_at hl 0 rfl) ?_
  refine lv_bipush (v := 16) hx hb dJ6_bitCount_0f7a4_43 (by decide) ?_
  refine lv_iushr (v := (((((((v0 - ((v0.toUInt32 >>> ((1 : Int32).toUInt32 &&& Int32.toUInt32 31)).toInt32 &&& 1431655765)) &&& 858993459) + (((v0 - ((v0.toUInt32 >>> ((1 : Int32).toUInt32 &&& Int32.toUInt32 31)).toInt32 &&& 1431655765)).toUInt32 >>> ((2 : Int32).toUInt32 &&& Int32.toUInt32 31)).toInt32 &&& 858993459)) + ((((v0 - ((v0.toUInt32 >>> ((1 : Int32).toUInt32 &&& Int32.toUInt32 31)).toInt32 &&& 1431655765)) &&& 858993459) + (((v0 - ((v0.toUInt32 >>> ((1 : Int32).toUInt32 &&& Int32.toUInt32 31)).toInt32 &&& 1431655765)).toUInt32 >>> ((2 : Int32).toUInt32 &&& Int32.toUInt32 31)).toInt32 &&& 858993459)).toUInt32 >>> ((4 : Int32).toUInt32 &&& Int32.toUInt32 31)).toInt32) &&& 252645135) + ((((((v0 - ((v0.toUInt32 >>> ((1 : Int32).toUInt32 &&& Int32.toUInt32 31)).toInt32 &&& 1431655765)) &&& 858993459) + (((v0 - ((v0.toUInt32 >>> ((1 : Int32).toUInt32 &&& Int32.toUInt32 31)).toInt32 &&& 1431655765)).toUInt32 >>> ((2 : Int32).toUInt32 &&& Int32.toUInt32 31)).toInt32 &&& 858993459)) + ((((v0 - ((v0.toUInt32 >>> ((1 : Int32).toUInt32 &&& Int32.toUInt32 31)).toInt32 &&& 1431655765)) &&& 858993459) + (((v0 - ((v0.toUInt32 >>> ((1 : Int32).toUInt32 &&& Int32.toUInt32 31)).toInt32 &&& 1431655765)).toUInt32 >>> ((2 : Int32).toUInt32 &&& Int32.toUInt32 31)).toInt32 &&& 858993459)).toUInt32 >>> ((4 : Int32).toUInt32 &&& Int32.toUInt32 31)).toInt32) &&& 252645135).toUInt32 >>> ((8 : Int32).toUInt32 &&& Int32.toUInt32 31)).toInt32).toUInt32 >>> ((16 : Int32).toUInt32 &&& Int32.toUInt32 31)).toInt32) hx hb dJ6_bitCount_0f7a4_45 rfl ?_
  refine lv_iadd hx hb dJ6_bitCount_0f7a4_46 ?_
  refine lv_istore_n (lv' := [(0, .int (((((((v0 - ((v0.toUInt32 >>> ((1 : Int32).toUInt32 &&& Int32.toUInt32 31)).toInt32 &&& 1431655765)) &&& 858993459) + (((v0 - ((v0.toUInt32 >>> ((1 : Int32).toUInt32 &&& Int32.toUInt32 31)).toInt32 &&& 1431655765)).toUInt32 >>> ((2 : Int32).toUInt32 &&& Int32.toUInt32 31)).toInt32 &&& 858993459)) + ((((v0 - ((v0.toUInt32 >>> ((1 : Int32).toUInt32 &&& Int32.toUInt32 31)).toInt32 &&& 1431655765)) &&& 858993459) + (((v0 - ((v0.toUInt32 >>> ((1 : Int32).toUInt32 &&& Int32.toUInt32 31)).toInt32 &&& 1431655765)).toUInt32 >>> ((2 : Int32).toUInt32 &&& Int32.toUInt32 31)).toInt32 &&& 858993459)).toUInt32 >>> ((4 : Int32).toUInt32 &&& Int32.toUInt32 31)).toInt32) &&& 252645135) + ((((((v0 - ((v0.toUInt32 >>> ((1 : Int32).toUInt32 &&& Int32.toUInt32 31)).toInt32 &&& 1431655765)) &&& 858993459) + (((v0 - ((v0.toUInt32 >>> ((1 : Int32).toUInt32 &&& Int32.toUInt32 31)).toInt32 &&& 1431655765)).toUInt32 >>> ((2 : Int32).toUInt32 &&& Int32.toUInt32 31)).toInt32 &&& 858993459)) + ((((v0 - ((v0.toUInt32 >>> ((1 : Int32).toUInt32 &&& Int32.toUInt32 31)).toInt32 &&& 1431655765)) &&& 858993459) + (((v0 - ((v0.toUInt32 >>> ((1 : Int32).toUInt32 &&& Int32.toUInt32 31)).toInt32 &&& 1431655765)).toUInt32 >>> ((2 : Int32).toUInt32 &&& Int32.toUInt32 31)).toInt32 &&& 858993459)).toUInt32 >>> ((4 : Int32).toUInt32 &&& Int32.toUInt32 31)).toInt32) &&& 252645135).toUInt32 >>> ((8 : Int32).toUInt32 &&& Int32.toUInt32 31)).toInt32) + (((((((v0 - ((v0.toUInt32 >>> ((1 : Int32).toUInt32 &&& Int32.toUInt32 31)).toInt32 &&& 1431655765)) &&& 858993459) + (((v0 - ((v0.toUInt32 >>> ((1 : Int32).toUInt32 &&& Int32.toUInt32 31)).toInt32 &&& 1431655765)).toUInt32 >>> ((2 : Int32).toUInt32 &&& Int32.toUInt32 31)).toInt32 &&& 858993459)) + ((((v0 - ((v0.toUInt32 >>> ((1 : Int32).toUInt32 &&& Int32.toUInt32 31)).toInt32 &&& 1431655765)) &&& 858993459) + (((v0 - ((v0.toUInt32 >>> ((1 : Int32).toUInt32 &&& Int32.toUInt32 31)).toInt32 &&& 1431655765)).toUInt32 >>> ((2 : Int32).toUInt32 &&& Int32.toUInt32 31)).toInt32 &&& 858993459)).toUInt32 >>> ((4 : Int32).toUInt32 &&& Int32.toUInt32 31)).toInt32) &&& 252645135) + ((((((v0 - ((v0.toUInt32 >>> ((1 : Int32).toUInt32 &&& Int32.toUInt32 31)).toInt32 &&& 1431655765)) &&& 858993459) + (((v0 - ((v0.toUInt32 >>> ((1 : Int32).toUInt32 &&& Int32.toUInt32 31)).toInt32 &&& 1431655765)).toUInt32 >>> ((2 : Int32).toUInt32 &&& Int32.toUInt32 31)).toInt32 &&& 858993459)) + ((((v0 - ((v0.toUInt32 >>> ((1 : Int32).toUInt32 &&& Int32.toUInt32 31)).toInt32 &&& 1431655765)) &&& 858993459) + (((v0 - ((v0.toUInt32 >>> ((1 : Int32).toUInt32 &&& Int32.toUInt32 31)).toInt32 &&& 1431655765)).toUInt32 >>> ((2 : Int32).toUInt32 &&& Int32.toUInt32 31)).toInt32 &&& 858993459)).toUInt32 >>> ((4 : Int32).toUInt32 &&& Int32.toUInt32 31)).toInt32) &&& 252645135).toUInt32 >>> ((8 : Int32).toUInt32 &&& Int32.toUInt32 31)).toInt32).toUInt32 >>> ((16 : Int32).toUInt32 &&& Int32.toUInt32 31)).toInt32))]) hx hb dJ6_bitCount_0f7a4_47 rfl hl (by decide) rfl (fun ls hl => ?_)
  refine lv_iload_n hx hb dJ6_bitCount_0f7a4_48 rfl (lv_at hl 0 rfl) ?_
  refine lv_bipush (v := 63) hx hb dJ6_bitCount_0f7a4_49 (by decide) ?_
  refine lv_iand hx hb dJ6_bitCount_0f7a4_51 ?_
  have he := Option.some.inj hf
  subst he
  exact hret _ _ _ _ dJ6_bitCount_0f7a4_52 rfl hP hD hS
abbrev rmX5_countLeft : Room := { frames := 1, cells := 0, slots := 0, locals := 20 }
theorem cw_X5_countLeft_J6_bitCount_0f7a4_47 {s : State} {args : Array Value} (hts : ∀ x ∈ wsX5_countLeft, x.before args s = true) : CallB rmX5_countLeft s args RX5 47 yJ6_bitCount_0f7a4 cJ6_bitCount_0f7a4 1 (some .int) wsJ6_bitCount_0f7a4 rmJ6_bitCount_0f7a4 0 0 1 ∧ (Cond.static yJ6_bitCount_0f7a4).before args s = true := va_cwS 1 hts gX5_countLeft_J6_bitCount_0f7a4 rfl rfl rfl (by decide +kernel) ⟨Nat.le_of_ble_eq_true rfl, Nat.le_of_ble_eq_true rfl⟩
set_option maxRecDepth 100000 in
set_option maxHeartbeats 4000000 in
theorem c_X5_countLeft (l : Launch) (D : va_G) (cI cZ cR : ClassId) (v0 : Int32) (v1 : Int32) (out : Int32) (hf : f_X5_countLeft v0 v1 = some out) : Ci l yX5_countLeft wsX5_countLeft rmX5_countLeft D cI cZ cR [.int v0, .int v1] [] out [] := by
  refine ent_i (cc := cX5_countLeft) (maxL := 2) .int (by decide) rfl (Nat.le_of_ble_eq_true rfl) ?_
  intro p e s m below meth c A Q hx hb hml hown hts hE hA hP hD hS hret ls hl
  have hown : s.vm.findClass RX5 = some m.cls := hown
  have hl : lv_has ls 2 [(0, .int v0), (1, .int v1)] := hl
  unfold f_X5_countLeft at hf
  refine lv_iload_n hx hb dX5_countLeft_0 rfl (lv_at hl 0 rfl) ?_
  refine lv_iload_n hx hb dX5_countLeft_1 rfl (lv_at hl 1 rfl) ?_
  refine lv_iconst (v := (-1)) hx hb dX5_countLeft_2 (by decide) ?_
  refine lv_ixor hx hb dX5_countLeft_3 ?_
  refine lv_iand hx hb dX5_countLeft_4 ?_
  obtain ⟨u1, hu1, hf⟩ := bd_some hf
  refine cl_iS (As := [.int (v0 &&& (v1 ^^^ (-1)))]) (rest := []) ⟨hx, hb, hml, hown, hts⟩ (c_J6_bitCount_0f7a4 l D cI cZ cR   (v0 &&& (v1 ^^^ (-1))) u1 hu1) (cw_X5_countLeft_J6_bitCount_0f7a4_47 hts) hE hP hD hS hA rfl hl.1 rfl (Nat.le_of_ble_eq_true rfl) dX5_countLeft_5 ⟨Nat.zero_le _, Nat.zero_le _⟩ (fun H locs hP hS => ?_)
  have he := Option.some.inj hf
  subst he
  exact hret _ _ _ _ dX5_countLeft_8 rfl hP hD hS
abbrev rmX5_isBetterFire : Room := { frames := 2, cells := 0, slots := 0, locals := 41 }
theorem hiX5_isBetterFire_5 : ∀ w ∈ wsX50, w ∈ wsX5_isBetterFire := fun w h => (goodIn_r (big := wsX5_isBetterFire) wsX50 [13, 14, 15, 16, 17, 18] rfl (by decide +kernel) w h).1
theorem cw_X5_isBetterFire_X5_countLeft_56 {s : State} {args : Array Value} (hts : ∀ x ∈ wsX5_isBetterFire, x.before args s = true) : CallB rmX5_isBetterFire s args RX5 56 yX5_countLeft cX5_countLeft 2 (some .int) wsX5_countLeft rmX5_countLeft 0 0 2 ∧ (Cond.static yX5_countLeft).before args s = true := va_cwS 2 hts gX5_isBetterFire_X5_countLeft rfl rfl rfl (by decide +kernel) ⟨Nat.le_of_ble_eq_true rfl, Nat.le_of_ble_eq_true rfl⟩
set_option maxRecDepth 100000 in
set_option maxHeartbeats 4000000 in
theorem c_X5_isBetterFire (l : Launch) (D : va_G) (cI cZ cR : ClassId) (a_sets : Nat) (a_sets_weights : Nat) (a_sets_fewest : Nat) (sets_size : Int32) (sets_shelf : Int32) (sets_hail : Int32) (sets_filled : Int32) (sets_weights : Nat → Int32) (v1 : Int32) (v2 : Int32) (v3 : Int32) (out : Int32) (hf : f_X5_isBetterFire sets_weights v1 v2 v3 = some out) : Ci l yX5_isBetterFire wsX5_isBetterFire rmX5_isBetterFire D cI cZ cR [.ref a_sets, .int v1, .int v2, .int v3] [(a_sets, .inr (5, [.ref a_sets_weights, .ref a_sets_fewest, .int sets_size, .int sets_shelf, .int sets_hail, .int sets_filled])), (a_sets_weights, .inl (cI, 128, .inl sets_weights))] out [(a_sets, .inr (5, [.ref a_sets_weights, .ref a_sets_fewest, .int sets_size, .int sets_shelf, .int sets_hail, .int sets_filled])), (a_sets_weights, .inl (cI, 128, .inl sets_weights))] := by
  refine ent_i (cc := cX5_isBetterFire) (maxL := 5) .boolean (by decide) rfl (Nat.le_of_ble_eq_true rfl) ?_
  intro p e s m below meth c A Q hx hb hml hown hts hE hA hP hD hS hret ls hl
  have hown : s.vm.findClass RX5 = some m.cls := hown
  have hl : lv_has ls 5 [(0, .ref a_sets), (1, .int v1), (2, .int v2), (3, .int v3)] := hl
  have fL9 := hts (.fieldLink RX5 9 "RainShelves$Sets" "weights" "[I") (List.mem_of_getElem? (i := 1) rfl)
  unfold f_X5_isBetterFire at hf
  refine lv_iload_n hx hb dX5_isBetterFire_0 rfl (lv_at hl 3 rfl) ?_
  refine lv_iload_n hx hb dX5_isBetterFire_1 rfl (lv_at hl 1 rfl) ?_
  obtain ⟨u1, hu1, hf⟩ := bd_some hf
  refine cl_iS (As := [.int v3, .int v1]) (rest := []) ⟨hx, hb, hml, hown, hts⟩ (c_X5_countLeft l D cI cZ cR   v3 v1 u1 hu1) (cw_X5_isBetterFire_X5_countLeft_56 hts) hE hP hD hS hA rfl hl.1 rfl (Nat.le_of_ble_eq_true rfl) dX5_isBetterFire_2 ⟨Nat.zero_le _, Nat.zero_le _⟩ (fun H locs hP hS => ?_)
  refine lv_iload_n hx hb dX5_isBetterFire_5 rfl (lv_at hl 3 rfl) ?_
  refine lv_iload_n hx hb dX5_isBetterFire_6 rfl (lv_at hl 2 rfl) ?_
  obtain ⟨u2, hu2, hf⟩ := bd_some hf
  refine cl_iS (As := [.int v3, .int v2]) (rest := [.int u1]) ⟨hx, hb, hml, hown, hts⟩ (c_X5_countLeft l D cI cZ cR   v3 v2 u2 hu2) (cw_X5_isBetterFire_X5_countLeft_56 hts) hE hP hD hS hA rfl hl.1 rfl (Nat.le_of_ble_eq_true rfl) dX5_isBetterFire_7 ⟨Nat.zero_le _, Nat.zero_le _⟩ (fun H locs hP hS => ?_)
  refine lv_isub hx hb dX5_isBetterFire_10 ?_
  refine lv_istore (lv' := [(4, .int (u1 - u2)), (0, .ref a_sets), (1, .int v1), (2, .int v2), (3, .int v3)]) hx hb dX5_isBetterFire_11 hl (by decide) rfl (fun ls hl => ?_)
  refine lv_iload hx hb dX5_isBetterFire_13 (lv_at hl 0 rfl) ?_
  refine lv_if_gt (tgt := 38) hx hb dX5_isBetterFire_15 (by decide) (fun hc1 => ?_) (fun hc1 => ?_)
  · have hf := if_t hf hc1
    refine lv_iconst (v := 1) hx hb dX5_isBetterFire_38 (by decide) ?_
    refine lv_goto (tgt := 43) hx hb dX5_isBetterFire_39 (by decide) ?_
    have he := Option.some.inj hf
    subst he
    exact hret _ _ _ _ dX5_isBetterFire_43 bn1 hP hD hS
  · have hf := if_f hf hc1
    refine lv_iload hx hb dX5_isBetterFire_18 (lv_at hl 0 rfl) ?_
    refine lv_if_ne (tgt := 42) hx hb dX5_isBetterFire_20 (by decide) (fun hc2 => ?_) (fun hc2 => ?_)
    · have hf := if_f hf hc2
      refine lv_iconst (v := 0) hx hb dX5_isBetterFire_42 (by decide) ?_
      have he := Option.some.inj hf
      subst he
      exact hret _ _ _ _ dX5_isBetterFire_43 bn0 hP hD hS
    · have hf := if_t hf hc2
      refine lv_aload_n hx hb dX5_isBetterFire_23 rfl (lv_at hl 1 rfl) ?_
      refine va_get (D := D) (ci := 5) (v := .ref a_sets_weights) (C := RX5) (T := TX5) (N := 6) hx hb hts hiX5_isBetterFire_5 hown hE.1 hP 0 rfl rfl 0 (by decide) fL9 (fun _ h9 => h9) rfl dX5_isBetterFire_24 ?_
      refine lv_iload_n hx hb dX5_isBetterFire_27 rfl (lv_at hl 2 rfl) ?_
      obtain ⟨hc3, hf⟩ := ck_some hf
      refine va_iald hx hb hE.1 hP 1 0 rfl rfl (ix_in hc3) dX5_isBetterFire_28 ?_
      refine lv_aload_n hx hb dX5_isBetterFire_29 rfl (lv_at hl 1 rfl) ?_
      refine va_get (D := D) (ci := 5) (v := .ref a_sets_weights) (C := RX5) (T := TX5) (N := 6) hx hb hts hiX5_isBetterFire_5 hown hE.1 hP 0 rfl rfl 0 (by decide) fL9 (fun _ h9 => h9) rfl dX5_isBetterFire_30 ?_
      refine lv_iload_n hx hb dX5_isBetterFire_33 rfl (lv_at hl 3 rfl) ?_
      obtain ⟨hc4, hf⟩ := ck_some hf
      refine va_iald hx hb hE.1 hP 1 0 rfl rfl (ix_in hc4) dX5_isBetterFire_34 ?_
      refine lv_icmp_ge (tgt := 42) hx hb dX5_isBetterFire_35 (by decide) (fun hc5 => ?_) (fun hc5 => ?_)
      · have hf := if_t hf hc5
        refine lv_iconst (v := 0) hx hb dX5_isBetterFire_42 (by decide) ?_
        have he := Option.some.inj hf
        subst he
        exact hret _ _ _ _ dX5_isBetterFire_43 bn0 hP hD hS
      · have hf := if_f hf hc5
        refine lv_iconst (v := 1) hx hb dX5_isBetterFire_38 (by decide) ?_
        refine lv_goto (tgt := 43) hx hb dX5_isBetterFire_39 (by decide) ?_
        have he := Option.some.inj hf
        subst he
        exact hret _ _ _ _ dX5_isBetterFire_43 bn1 hP hD hS
abbrev rmX5_bestFire : Room := { frames := 3, cells := 0, slots := 0, locals := 65 }
theorem hiX5_bestFire_5 : ∀ w ∈ wsX50, w ∈ wsX5_bestFire := fun w h => (goodIn_r (big := wsX5_bestFire) wsX50 [18, 19, 20, 21, 22, 23] rfl (by decide +kernel) w h).1
theorem cw_X5_bestFire_X5_isBetterFire_52 {s : State} {args : Array Value} (hts : ∀ x ∈ wsX5_bestFire, x.before args s = true) : CallW rmX5_bestFire s args RX5 RX5 52 yX5_isBetterFire cX5_isBetterFire 5 (some .boolean) wsX5_isBetterFire rmX5_isBetterFire 0 0 3 := cwV 3 hts gX5_bestFire_X5_isBetterFire rfl rfl rfl (by decide +kernel) ⟨Nat.le_of_ble_eq_true rfl, Nat.le_of_ble_eq_true rfl⟩
set_option maxRecDepth 100000 in
set_option maxHeartbeats 4000000 in
theorem c_X5_bestFire (l : Launch) (D : va_G) (cI cZ cR : ClassId) (a_sets : Nat) (a_sets_weights : Nat) (a_sets_fewest : Nat) (sets_size : Int32) (sets_shelf : Int32) (sets_hail : Int32) (sets_filled : Int32) (sets_weights : Nat → Int32) (v1 : Int32) (v2 : Int32) (out : Int32) (hf : f_X5_bestFire sets_size sets_weights v1 v2 = some out) : Ci l yX5_bestFire wsX5_bestFire rmX5_bestFire D cI cZ cR [.ref a_sets, .int v1, .int v2] [(a_sets, .inr (5, [.ref a_sets_weights, .ref a_sets_fewest, .int sets_size, .int sets_shelf, .int sets_hail, .int sets_filled])), (a_sets_weights, .inl (cI, 128, .inl sets_weights))] out [(a_sets, .inr (5, [.ref a_sets_weights, .ref a_sets_fewest, .int sets_size, .int sets_shelf, .int sets_hail, .int sets_filled])), (a_sets_weights, .inl (cI, 128, .inl sets_weights))] := by
  refine ent_i (cc := cX5_bestFire) (maxL := 5) .int (by decide) rfl (Nat.le_of_ble_eq_true rfl) ?_
  intro p e s m below meth c A Q hx hb hml hown hts hE hA hP hD hS hret ls hl
  have hown : s.vm.findClass RX5 = some m.cls := hown
  have hl : lv_has ls 5 [(0, .ref a_sets), (1, .int v1), (2, .int v2)] := hl
  have fL9 := hts (.fieldLink RX5 9 "RainShelves$Sets" "weights" "[I") (List.mem_of_getElem? (i := 2) rfl)
  have fL18 := hts (.fieldLink RX5 18 "RainShelves$Sets" "size" "I") (List.mem_of_getElem? (i := 1) rfl)
  unfold f_X5_bestFire at hf
  have L6 : ∀ (n6 : Nat) (v3_6 : Int32) (v4_6 : Int32), f_X5_bestFire_L6 sets_size sets_weights v1 v2 n6 v3_6 v4_6 = some out → ∀ (H : Heap) (locs : List Loc) (ls : Array Slot), PD D A [(a_sets, .inr (5, [.ref a_sets_weights, .ref a_sets_fewest, .int sets_size, .int sets_shelf, .int sets_hail, .int sets_filled])), (a_sets_weights, .inl (cI, 128, .inl sets_weights))] H → va_S A s.heap H locs → lv_has ls 5 [(0, .ref a_sets), (1, .int v1), (2, .int v2), (3, .int v3_6), (4, .int v4_6)] → W p l e rmX5_bestFire s m ([.ref a_sets, .int v1, .int v2] : List Value).toArray below meth c H locs 0 0 Q (F0 m 6 ls []) := by
    intro  n6
    induction n6 with
    | zero => intro v3_6 v4_6 hf; cases hf
    | succ n6 ih6 =>
      intro v3_6 v4_6 hf H locs ls hPD hS hl
      obtain ⟨hP, hD⟩ := hPD
      have hf : f_X5_bestFire_B6 sets_size sets_weights v1 v2 (f_X5_bestFire_L6 sets_size sets_weights v1 v2 n6) v3_6 v4_6 = some out := hf
      unfold f_X5_bestFire_B6 at hf
      refine lv_iload hx hb dX5_bestFire_6 (lv_at hl 4 rfl) ?_
      refine lv_aload_n hx hb dX5_bestFire_8 rfl (lv_at hl 0 rfl) ?_
      refine va_get (D := D) (ci := 5) (v := .int sets_size) (C := RX5) (T := TX5) (N := 6) hx hb hts hiX5_bestFire_5 hown hE.1 hP 0 rfl rfl 2 (by decide) fL18 (fun _ h9 => h9) rfl dX5_bestFire_9 ?_
      refine lv_icmp_ge (tgt := 52) hx hb dX5_bestFire_12 (by decide) (fun hc1 => ?_) (fun hc1 => ?_)
      · have hf := if_t hf hc1
        refine lv_iload_n hx hb dX5_bestFire_52 rfl (lv_at hl 3 rfl) ?_
        have he := Option.some.inj hf
        subst he
        exact hret _ _ _ _ dX5_bestFire_53 rfl hP hD hS
      · have hf := if_f hf hc1
        refine lv_aload_n hx hb dX5_bestFire_15 rfl (lv_at hl 0 rfl) ?_
        refine va_get (D := D) (ci := 5) (v := .ref a_sets_weights) (C := RX5) (T := TX5) (N := 6) hx hb hts hiX5_bestFire_5 hown hE.1 hP 0 rfl rfl 0 (by decide) fL9 (fun _ h9 => h9) rfl dX5_bestFire_16 ?_
        refine lv_iload hx hb dX5_bestFire_19 (lv_at hl 4 rfl) ?_
        obtain ⟨hc2, hf⟩ := ck_some hf
        refine va_iald hx hb hE.1 hP 1 0 rfl rfl (ix_in hc2) dX5_bestFire_21 ?_
        refine lv_iload_n hx hb dX5_bestFire_22 rfl (lv_at hl 1 rfl) ?_
        refine lv_icmp_lt (tgt := 46) hx hb dX5_bestFire_23 (by decide) (fun hc3 => ?_) (fun hc3 => ?_)
        · have hf := if_t hf hc3
          refine lv_iinc (v := (v4_6 + 1)) (lv' := [(4, .int (v4_6 + 1)), (0, .ref a_sets), (1, .int v1), (2, .int v2), (3, .int v3_6)]) hx hb dX5_bestFire_46 hl (k := 4) rfl (ii_p1 _) (by decide) rfl (fun ls hl => ?_)
          refine lv_goto (tgt := 6) hx hb dX5_bestFire_49 (by decide) ?_
          exact ih6 v3_6 (v4_6 + 1) hf _ _ _ ⟨hP, hD⟩ hS (lv_sub hl [1, 2, 3, 4, 0] rfl)
        · have hf := if_f hf hc3
          refine lv_iload_n hx hb dX5_bestFire_26 rfl (lv_at hl 3 rfl) ?_
          refine lv_bipush (v := (-9)) hx hb dX5_bestFire_27 (by decide) ?_
          refine lv_icmp_eq (tgt := 43) hx hb dX5_bestFire_29 (by decide) (fun hc4 => ?_) (fun hc4 => ?_)
          · have hf := if_t hf hc4
            refine lv_iload hx hb dX5_bestFire_43 (lv_at hl 4 rfl) ?_
            refine lv_istore_n (lv' := [(3, .int v4_6), (0, .ref a_sets), (1, .int v1), (2, .int v2), (4, .int v4_6)]) hx hb dX5_bestFire_45 rfl hl (by decide) rfl (fun ls hl => ?_)
            refine lv_iinc (v := (v4_6 + 1)) (lv' := [(4, .int (v4_6 + 1)), (3, .int v4_6), (0, .ref a_sets), (1, .int v1), (2, .int v2)]) hx hb dX5_bestFire_46 hl (k := 4) rfl (ii_p1 _) (by decide) rfl (fun ls hl => ?_)
            refine lv_goto (tgt := 6) hx hb dX5_bestFire_49 (by decide) ?_
            exact ih6 v4_6 (v4_6 + 1) hf _ _ _ ⟨hP, hD⟩ hS (lv_sub hl [2, 3, 4, 1, 0] rfl)
          · have hf := if_f hf hc4
            refine lv_aload_n hx hb dX5_bestFire_32 rfl (lv_at hl 0 rfl) ?_
            refine lv_iload hx hb dX5_bestFire_33 (lv_at hl 4 rfl) ?_
            refine lv_iload_n hx hb dX5_bestFire_35 rfl (lv_at hl 3 rfl) ?_
            refine lv_iload_n hx hb dX5_bestFire_36 rfl (lv_at hl 2 rfl) ?_
            obtain ⟨u1, hu1, hf⟩ := bd_some hf
            refine cl_iV (As := [.int v4_6, .int v3_6, .int v2]) (rest := []) ⟨hx, hb, hml, hown, hts⟩ (c_X5_isBetterFire l D cI cZ cR a_sets a_sets_weights a_sets_fewest sets_size sets_shelf sets_hail sets_filled sets_weights v4_6 v3_6 v2 u1 hu1) (cw_X5_bestFire_X5_isBetterFire_52 hts) hE hP hD hS hA [0, 1] rfl rfl [a_sets, a_sets_weights] rfl rfl 0 5 rfl rfl rfl hl.1 rfl (Nat.le_of_ble_eq_true rfl) dX5_bestFire_37 ⟨Nat.zero_le _, Nat.zero_le _⟩ (fun H locs hP hD hS => ?_)
            have hPD : PD D A [(a_sets, .inr (5, [.ref a_sets_weights, .ref a_sets_fewest, .int sets_size, .int sets_shelf, .int sets_hail, .int sets_filled])), (a_sets_weights, .inl (cI, 128, .inl sets_weights))] H := ⟨hP, hD⟩
            obtain ⟨hP, hD⟩ := hPD
            refine lv_if_eq (tgt := 46) hx hb dX5_bestFire_40 (by decide) (fun hc5 => ?_) (fun hc5 => ?_)
            · have hf := if_t hf hc5
              refine lv_iinc (v := (v4_6 + 1)) (lv' := [(4, .int (v4_6 + 1)), (0, .ref a_sets), (1, .int v1), (2, .int v2), (3, .int v3_6)]) hx hb dX5_bestFire_46 hl (k := 4) rfl (ii_p1 _) (by decide) rfl (fun ls hl => ?_)
              refine lv_goto (tgt := 6) hx hb dX5_bestFire_49 (by decide) ?_
              exact ih6 v3_6 (v4_6 + 1) hf _ _ _ ⟨hP, hD⟩ hS (lv_sub hl [1, 2, 3, 4, 0] rfl)
            · have hf := if_f hf hc5
              refine lv_iload hx hb dX5_bestFire_43 (lv_at hl 4 rfl) ?_
              refine lv_istore_n (lv' := [(3, .int v4_6), (0, .ref a_sets), (1, .int v1), (2, .int v2), (4, .int v4_6)]) hx hb dX5_bestFire_45 rfl hl (by decide) rfl (fun ls hl => ?_)
              refine lv_iinc (v := (v4_6 + 1)) (lv' := [(4, .int (v4_6 + 1)), (3, .int v4_6), (0, .ref a_sets), (1, .int v1), (2, .int v2)]) hx hb dX5_bestFire_46 hl (k := 4) rfl (ii_p1 _) (by decide) rfl (fun ls hl => ?_)
              refine lv_goto (tgt := 6) hx hb dX5_bestFire_49 (by decide) ?_
              exact ih6 v4_6 (v4_6 + 1) hf _ _ _ ⟨hP, hD⟩ hS (lv_sub hl [2, 3, 4, 1, 0] rfl)
  refine lv_bipush (v := (-9)) hx hb dX5_bestFire_0 (by decide) ?_
  refine lv_istore_n (lv' := [(3, .int (-9)), (0, .ref a_sets), (1, .int v1), (2, .int v2)]) hx hb dX5_bestFire_2 rfl hl (by decide) rfl (fun ls hl => ?_)
  refine lv_iconst (v := 1) hx hb dX5_bestFire_3 (by decide) ?_
  refine lv_istore (lv' := [(4, .int 1), (3, .int (-9)), (0, .ref a_sets), (1, .int v1), (2, .int v2)]) hx hb dX5_bestFire_4 hl (by decide) rfl (fun ls hl => ?_)
  exact L6  FU (-9) 1 hf _ _ _ ⟨hP, hD⟩ hS (lv_sub hl [2, 3, 4, 1, 0] rfl)
abbrev rmX5_fitsOneShelf : Room := { frames := 0, cells := 0, slots := 0, locals := 0 }
theorem hiX5_fitsOneShelf_5 : ∀ w ∈ wsX50, w ∈ wsX5_fitsOneShelf := fun w h => (goodIn_r (big := wsX5_fitsOneShelf) wsX50 [4, 5, 6, 7, 8, 9] rfl (by decide +kernel) w h).1
set_option maxRecDepth 100000 in
set_option maxHeartbeats 4000000 in
theorem c_X5_fitsOneShelf (l : Launch) (D : va_G) (cI cZ cR : ClassId) (a_sets : Nat) (a_sets_weights : Nat) (a_sets_fewest : Nat) (sets_size : Int32) (sets_shelf : Int32) (sets_hail : Int32) (sets_filled : Int32) (sets_weights : Nat → Int32) (v1 : Int32) (out : Int32) (hf : f_X5_fitsOneShelf sets_shelf sets_hail sets_weights v1 = some out) : Ci l yX5_fitsOneShelf wsX5_fitsOneShelf rmX5_fitsOneShelf D cI cZ cR [.ref a_sets, .int v1] [(a_sets, .inr (5, [.ref a_sets_weights, .ref a_sets_fewest, .int sets_size, .int sets_shelf, .int sets_hail, .int sets_filled])), (a_sets_weights, .inl (cI, 128, .inl sets_weights))] out [(a_sets, .inr (5, [.ref a_sets_weights, .ref a_sets_fewest, .int sets_size, .int sets_shelf, .int sets_hail, .int sets_filled])), (a_sets_weights, .inl (cI, 128, .inl sets_weights))] := by
  refine ent_i (cc := cX5_fitsOneShelf) (maxL := 3) .boolean (by decide) rfl (Nat.le_of_ble_eq_true rfl) ?_
  intro p e s m below meth c A Q hx hb hml hown hts hE hA hP hD hS hret ls hl
  have hown : s.vm.findClass RX5 = some m.cls := hown
  have hl : lv_has ls 3 [(0, .ref a_sets), (1, .int v1)] := hl
  have fL9 := hts (.fieldLink RX5 9 "RainShelves$Sets" "weights" "[I") (List.mem_of_getElem? (i := 2) rfl)
  have fL27 := hts (.fieldLink RX5 27 "RainShelves$Sets" "shelf" "I") (List.mem_of_getElem? (i := 3) rfl)
  have fL32 := hts (.fieldLink RX5 32 "RainShelves$Sets" "hail" "I") (List.mem_of_getElem? (i := 1) rfl)
  unfold f_X5_fitsOneShelf at hf
  refine lv_iload_n hx hb dX5_fitsOneShelf_0 rfl (lv_at hl 1 rfl) ?_
  refine lv_aload_n hx hb dX5_fitsOneShelf_1 rfl (lv_at hl 0 rfl) ?_
  refine va_get (D := D) (ci := 5) (v := .int sets_hail) (C := RX5) (T := TX5) (N := 6) hx hb hts hiX5_fitsOneShelf_5 hown hE.1 hP 0 rfl rfl 4 (by decide) fL32 (fun _ h9 => h9) rfl dX5_fitsOneShelf_2 ?_
  refine lv_iand hx hb dX5_fitsOneShelf_5 ?_
  refine lv_istore_n (lv' := [(2, .int (v1 &&& sets_hail)), (0, .ref a_sets), (1, .int v1)]) hx hb dX5_fitsOneShelf_6 rfl hl (by decide) rfl (fun ls hl => ?_)
  refine lv_aload_n hx hb dX5_fitsOneShelf_7 rfl (lv_at hl 1 rfl) ?_
  refine va_get (D := D) (ci := 5) (v := .ref a_sets_weights) (C := RX5) (T := TX5) (N := 6) hx hb hts hiX5_fitsOneShelf_5 hown hE.1 hP 0 rfl rfl 0 (by decide) fL9 (fun _ h9 => h9) rfl dX5_fitsOneShelf_8 ?_
  refine lv_iload_n hx hb dX5_fitsOneShelf_11 rfl (lv_at hl 2 rfl) ?_
  obtain ⟨hc1, hf⟩ := ck_some hf
  refine va_iald hx hb hE.1 hP 1 0 rfl rfl (ix_in hc1) dX5_fitsOneShelf_12 ?_
  refine lv_aload_n hx hb dX5_fitsOneShelf_13 rfl (lv_at hl 1 rfl) ?_
  refine va_get (D := D) (ci := 5) (v := .int sets_shelf) (C := RX5) (T := TX5) (N := 6) hx hb hts hiX5_fitsOneShelf_5 hown hE.1 hP 0 rfl rfl 3 (by decide) fL27 (fun _ h9 => h9) rfl dX5_fitsOneShelf_14 ?_
  refine lv_icmp_gt (tgt := 33) hx hb dX5_fitsOneShelf_17 (by decide) (fun hc2 => ?_) (fun hc2 => ?_)
  · have hf := if_t hf hc2
    refine lv_iconst (v := 0) hx hb dX5_fitsOneShelf_33 (by decide) ?_
    have he := Option.some.inj hf
    subst he
    exact hret _ _ _ _ dX5_fitsOneShelf_34 bn0 hP hD hS
  · have hf := if_f hf hc2
    refine lv_iload_n hx hb dX5_fitsOneShelf_20 rfl (lv_at hl 0 rfl) ?_
    refine lv_if_eq (tgt := 29) hx hb dX5_fitsOneShelf_21 (by decide) (fun hc3 => ?_) (fun hc3 => ?_)
    · have hf := if_t hf hc3
      refine lv_iconst (v := 1) hx hb dX5_fitsOneShelf_29 (by decide) ?_
      refine lv_goto (tgt := 34) hx hb dX5_fitsOneShelf_30 (by decide) ?_
      have he := Option.some.inj hf
      subst he
      exact hret _ _ _ _ dX5_fitsOneShelf_34 bn1 hP hD hS
    · have hf := if_f hf hc3
      refine lv_iload_n hx hb dX5_fitsOneShelf_24 rfl (lv_at hl 0 rfl) ?_
      refine lv_iload_n hx hb dX5_fitsOneShelf_25 rfl (lv_at hl 2 rfl) ?_
      refine lv_icmp_ne (tgt := 33) hx hb dX5_fitsOneShelf_26 (by decide) (fun hc4 => ?_) (fun hc4 => ?_)
      · have hf := if_f hf hc4
        refine lv_iconst (v := 0) hx hb dX5_fitsOneShelf_33 (by decide) ?_
        have he := Option.some.inj hf
        subst he
        exact hret _ _ _ _ dX5_fitsOneShelf_34 bn0 hP hD hS
      · have hf := if_t hf hc4
        refine lv_iconst (v := 1) hx hb dX5_fitsOneShelf_29 (by decide) ?_
        refine lv_goto (tgt := 34) hx hb dX5_fitsOneShelf_30 (by decide) ?_
        have he := Option.some.inj hf
        subst he
        exact hret _ _ _ _ dX5_fitsOneShelf_34 bn1 hP hD hS
abbrev rmX5_isFilled : Room := { frames := 0, cells := 0, slots := 0, locals := 0 }
theorem hiX5_isFilled_5 : ∀ w ∈ wsX50, w ∈ wsX5_isFilled := fun w h => (goodIn_r (big := wsX5_isFilled) wsX50 [2, 3, 4, 5, 6, 7] rfl (by decide +kernel) w h).1
set_option maxRecDepth 100000 in
set_option maxHeartbeats 4000000 in
theorem c_X5_isFilled (l : Launch) (D : va_G) (cI cZ cR : ClassId) (a_sets : Nat) (a_sets_weights : Nat) (a_sets_fewest : Nat) (sets_size : Int32) (sets_shelf : Int32) (sets_hail : Int32) (sets_filled : Int32) (v1 : Int32) (out : Int32) (hf : f_X5_isFilled sets_filled v1 = some out) : Ci l yX5_isFilled wsX5_isFilled rmX5_isFilled D cI cZ cR [.ref a_sets, .int v1] [(a_sets, .inr (5, [.ref a_sets_weights, .ref a_sets_fewest, .int sets_size, .int sets_shelf, .int sets_hail, .int sets_filled]))] out [(a_sets, .inr (5, [.ref a_sets_weights, .ref a_sets_fewest, .int sets_size, .int sets_shelf, .int sets_hail, .int sets_filled]))] := by
  refine ent_i (cc := cX5_isFilled) (maxL := 2) .boolean (by decide) rfl (Nat.le_of_ble_eq_true rfl) ?_
  intro p e s m below meth c A Q hx hb hml hown hts hE hA hP hD hS hret ls hl
  have hown : s.vm.findClass RX5 = some m.cls := hown
  have hl : lv_has ls 2 [(0, .ref a_sets), (1, .int v1)] := hl
  have fL35 := hts (.fieldLink RX5 35 "RainShelves$Sets" "filled" "I") (List.mem_of_getElem? (i := 1) rfl)
  unfold f_X5_isFilled at hf
  refine lv_iload_n hx hb dX5_isFilled_0 rfl (lv_at hl 1 rfl) ?_
  refine lv_aload_n hx hb dX5_isFilled_1 rfl (lv_at hl 0 rfl) ?_
  refine va_get (D := D) (ci := 5) (v := .int sets_filled) (C := RX5) (T := TX5) (N := 6) hx hb hts hiX5_isFilled_5 hown hE.1 hP 0 rfl rfl 5 (by decide) fL35 (fun _ h9 => h9) rfl dX5_isFilled_2 ?_
  refine lv_iconst (v := (-1)) hx hb dX5_isFilled_5 (by decide) ?_
  refine lv_ixor hx hb dX5_isFilled_6 ?_
  refine lv_iand hx hb dX5_isFilled_7 ?_
  refine lv_if_ne (tgt := 15) hx hb dX5_isFilled_8 (by decide) (fun hc1 => ?_) (fun hc1 => ?_)
  · have hf := if_f hf hc1
    refine lv_iconst (v := 0) hx hb dX5_isFilled_15 (by decide) ?_
    have he := Option.some.inj hf
    subst he
    exact hret _ _ _ _ dX5_isFilled_16 bn0 hP hD hS
  · have hf := if_t hf hc1
    refine lv_iconst (v := 1) hx hb dX5_isFilled_11 (by decide) ?_
    refine lv_goto (tgt := 16) hx hb dX5_isFilled_12 (by decide) ?_
    have he := Option.some.inj hf
    subst he
    exact hret _ _ _ _ dX5_isFilled_16 bn1 hP hD hS
abbrev rmX5_fewestFor : Room := { frames := 1, cells := 0, slots := 0, locals := 22 }
theorem hiX5_fewestFor_5 : ∀ w ∈ wsX50, w ∈ wsX5_fewestFor := fun w h => (goodIn_r (big := wsX5_fewestFor) wsX50 [14, 15, 16, 17, 18, 19] rfl (by decide +kernel) w h).1
theorem cw_X5_fewestFor_X5_fitsOneShelf_67 {s : State} {args : Array Value} (hts : ∀ x ∈ wsX5_fewestFor, x.before args s = true) : CallW rmX5_fewestFor s args RX5 RX5 67 yX5_fitsOneShelf cX5_fitsOneShelf 3 (some .boolean) wsX5_fitsOneShelf rmX5_fitsOneShelf 0 0 1 := cwV 1 hts gX5_fewestFor_X5_fitsOneShelf rfl rfl rfl (by decide +kernel) ⟨Nat.le_of_ble_eq_true rfl, Nat.le_of_ble_eq_true rfl⟩
set_option maxRecDepth 100000 in
set_option maxHeartbeats 4000000 in
theorem c_X5_fewestFor (l : Launch) (D : va_G) (cI cZ cR : ClassId) (a_sets : Nat) (a_sets_weights : Nat) (a_sets_fewest : Nat) (sets_size : Int32) (sets_shelf : Int32) (sets_hail : Int32) (sets_filled : Int32) (sets_weights : Nat → Int32) (sets_fewest : Nat → Int32) (v1 : Int32) (out : Int32) (hf : f_X5_fewestFor sets_shelf sets_hail sets_weights sets_fewest v1 = some out) : Ci l yX5_fewestFor wsX5_fewestFor rmX5_fewestFor D cI cZ cR [.ref a_sets, .int v1] [(a_sets, .inr (5, [.ref a_sets_weights, .ref a_sets_fewest, .int sets_size, .int sets_shelf, .int sets_hail, .int sets_filled])), (a_sets_weights, .inl (cI, 128, .inl sets_weights)), (a_sets_fewest, .inl (cI, 128, .inl sets_fewest))] out [(a_sets, .inr (5, [.ref a_sets_weights, .ref a_sets_fewest, .int sets_size, .int sets_shelf, .int sets_hail, .int sets_filled])), (a_sets_weights, .inl (cI, 128, .inl sets_weights)), (a_sets_fewest, .inl (cI, 128, .inl sets_fewest))] := by
  refine ent_i (cc := cX5_fewestFor) (maxL := 4) .int (by decide) rfl (Nat.le_of_ble_eq_true rfl) ?_
  intro p e s m below meth c A Q hx hb hml hown hts hE hA hP hD hS hret ls hl
  have hown : s.vm.findClass RX5 = some m.cls := hown
  have hl : lv_has ls 4 [(0, .ref a_sets), (1, .int v1)] := hl
  have fL15 := hts (.fieldLink RX5 15 "RainShelves$Sets" "fewest" "[I") (List.mem_of_getElem? (i := 1) rfl)
  have mBmin := hts (.static Lib.Math.min.name) (List.mem_of_getElem? (i := 3) rfl)
  have mDmin := hts (.code Lib.Math.min.name Lib.Math.min.code 2 (some .int)) (List.mem_of_getElem? (i := 5) rfl)
  have mC := hts (.initialized "java/lang/Math") (List.mem_of_getElem? (i := 4) rfl)
  have mA70 := hts (.methodLink RX5 70 Lib.Math.min.name) (List.mem_of_getElem? (i := 2) rfl)
  unfold f_X5_fewestFor at hf
  have L5 : ∀ (n5 : Nat) (v2_5 : Int32) (v3_5 : Int32), f_X5_fewestFor_L5 sets_shelf sets_hail sets_weights sets_fewest v1 n5 v2_5 v3_5 = some out → ∀ (H : Heap) (locs : List Loc) (ls : Array Slot), PD D A [(a_sets, .inr (5, [.ref a_sets_weights, .ref a_sets_fewest, .int sets_size, .int sets_shelf, .int sets_hail, .int sets_filled])), (a_sets_weights, .inl (cI, 128, .inl sets_weights)), (a_sets_fewest, .inl (cI, 128, .inl sets_fewest))] H → va_S A s.heap H locs → lv_has ls 4 [(0, .ref a_sets), (1, .int v1), (2, .int v2_5), (3, .int v3_5)] → W p l e rmX5_fewestFor s m ([.ref a_sets, .int v1] : List Value).toArray below meth c H locs 0 0 Q (F0 m 5 ls []) := by
    intro  n5
    induction n5 with
    | zero => intro v2_5 v3_5 hf; cases hf
    | succ n5 ih5 =>
      intro v2_5 v3_5 hf H locs ls hPD hS hl
      obtain ⟨hP, hD⟩ := hPD
      have hf : f_X5_fewestFor_B5 sets_shelf sets_hail sets_weights sets_fewest v1 (f_X5_fewestFor_L5 sets_shelf sets_hail sets_weights sets_fewest v1 n5) v2_5 v3_5 = some out := hf
      unfold f_X5_fewestFor_B5 at hf
      have J32 : ∀ (v2_32 : Int32), f_X5_fewestFor_J32 v3_5 v1 (f_X5_fewestFor_L5 sets_shelf sets_hail sets_weights sets_fewest v1 n5) v2_32 = some out → ∀ (H : Heap) (locs : List Loc) (ls : Array Slot), PD D A [(a_sets, .inr (5, [.ref a_sets_weights, .ref a_sets_fewest, .int sets_size, .int sets_shelf, .int sets_hail, .int sets_filled])), (a_sets_weights, .inl (cI, 128, .inl sets_weights)), (a_sets_fewest, .inl (cI, 128, .inl sets_fewest))] H → va_S A s.heap H locs → lv_has ls 4 [(0, .ref a_sets), (1, .int v1), (2, .int v2_32), (3, .int v3_5)] → W p l e rmX5_fewestFor s m ([.ref a_sets, .int v1] : List Value).toArray below meth c H locs 0 0 Q (F0 m 32 ls []) := by
        intro v2_32 hf H locs ls hPD hS hl
        obtain ⟨hP, hD⟩ := hPD
        unfold f_X5_fewestFor_J32 at hf
        refine lv_iload_n hx hb dX5_fewestFor_32 rfl (lv_at hl 3 rfl) ?_
        refine lv_iconst (v := 1) hx hb dX5_fewestFor_33 (by decide) ?_
        refine lv_isub hx hb dX5_fewestFor_34 ?_
        refine lv_iload_n hx hb dX5_fewestFor_35 rfl (lv_at hl 1 rfl) ?_
        refine lv_iand hx hb dX5_fewestFor_36 ?_
        refine lv_istore_n (lv' := [(3, .int ((v3_5 - 1) &&& v1)), (0, .ref a_sets), (1, .int v1), (2, .int v2_32)]) hx hb dX5_fewestFor_37 rfl hl (by decide) rfl (fun ls hl => ?_)
        refine lv_goto (tgt := 5) hx hb dX5_fewestFor_38 (by decide) ?_
        exact ih5 v2_32 ((v3_5 - 1) &&& v1) hf _ _ _ ⟨hP, hD⟩ hS (lv_sub hl [1, 2, 3, 0] rfl)
      refine lv_iload_n hx hb dX5_fewestFor_5 rfl (lv_at hl 3 rfl) ?_
      refine lv_if_le (tgt := 41) hx hb dX5_fewestFor_6 (by decide) (fun hc1 => ?_) (fun hc1 => ?_)
      · have hf := if_t hf hc1
        refine lv_iload_n hx hb dX5_fewestFor_41 rfl (lv_at hl 2 rfl) ?_
        have he := Option.some.inj hf
        subst he
        exact hret _ _ _ _ dX5_fewestFor_42 rfl hP hD hS
      · have hf := if_f hf hc1
        refine lv_aload_n hx hb dX5_fewestFor_9 rfl (lv_at hl 0 rfl) ?_
        refine lv_iload_n hx hb dX5_fewestFor_10 rfl (lv_at hl 3 rfl) ?_
        obtain ⟨u1, hu1, hf⟩ := bd_some hf
        refine cl_iV (As := [.int v3_5]) (rest := []) ⟨hx, hb, hml, hown, hts⟩ (c_X5_fitsOneShelf l D cI cZ cR a_sets a_sets_weights a_sets_fewest sets_size sets_shelf sets_hail sets_filled sets_weights v3_5 u1 hu1) (cw_X5_fewestFor_X5_fitsOneShelf_67 hts) hE hP hD hS hA [0, 1] rfl rfl [a_sets, a_sets_weights] rfl rfl 0 5 rfl rfl rfl hl.1 rfl (Nat.le_of_ble_eq_true rfl) dX5_fewestFor_11 ⟨Nat.zero_le _, Nat.zero_le _⟩ (fun H locs hP hD hS => ?_)
        have hPD : PD D A [(a_sets, .inr (5, [.ref a_sets_weights, .ref a_sets_fewest, .int sets_size, .int sets_shelf, .int sets_hail, .int sets_filled])), (a_sets_weights, .inl (cI, 128, .inl sets_weights)), (a_sets_fewest, .inl (cI, 128, .inl sets_fewest))] H := ⟨hP, hD⟩
        obtain ⟨hP, hD⟩ := hPD
        refine lv_if_eq (tgt := 32) hx hb dX5_fewestFor_14 (by decide) (fun hc2 => ?_) (fun hc2 => ?_)
        · have hf := if_t hf hc2
          exact J32 v2_5 hf _ _ _ ⟨hP, hD⟩ hS hl
        · have hf := if_f hf hc2
          refine lv_iload_n hx hb dX5_fewestFor_17 rfl (lv_at hl 2 rfl) ?_
          refine lv_aload_n hx hb dX5_fewestFor_18 rfl (lv_at hl 0 rfl) ?_
          refine va_get (D := D) (ci := 5) (v := .ref a_sets_fewest) (C := RX5) (T := TX5) (N := 6) hx hb hts hiX5_fewestFor_5 hown hE.1 hP 0 rfl rfl 1 (by decide) fL15 (fun _ h9 => h9) rfl dX5_fewestFor_19 ?_
          refine lv_iload_n hx hb dX5_fewestFor_22 rfl (lv_at hl 1 rfl) ?_
          refine lv_iload_n hx hb dX5_fewestFor_23 rfl (lv_at hl 3 rfl) ?_
          refine lv_ixor hx hb dX5_fewestFor_24 ?_
          obtain ⟨hc3, hf⟩ := ck_some hf
          refine va_iald hx hb hE.1 hP 2 0 rfl rfl (ix_in hc3) dX5_fewestFor_25 ?_
          refine lv_iconst (v := 1) hx hb dX5_fewestFor_26 (by decide) ?_
          refine lv_iadd hx hb dX5_fewestFor_27 ?_
          refine va_mmin hx hb (hml.trans hl.1.symm) hown mA70 mBmin mC mDmin (Nat.le_of_ble_eq_true rfl) (Nat.le_of_ble_eq_true rfl) (Nat.zero_le _) (Nat.zero_le _) dX5_fewestFor_28 ?_
          refine lv_istore_n (lv' := [(2, .int (if ((sets_fewest (v1 ^^^ v3_5).toNatClampNeg) + 1) < v2_5 then ((sets_fewest (v1 ^^^ v3_5).toNatClampNeg) + 1) else v2_5)), (0, .ref a_sets), (1, .int v1), (3, .int v3_5)]) hx hb dX5_fewestFor_31 rfl hl (by decide) rfl (fun ls hl => ?_)
          exact J32 (if ((sets_fewest (v1 ^^^ v3_5).toNatClampNeg) + 1) < v2_5 then ((sets_fewest (v1 ^^^ v3_5).toNatClampNeg) + 1) else v2_5) hf _ _ _ ⟨hP, hD⟩ hS (lv_sub hl [1, 2, 0, 3] rfl)
  refine lv_bipush (v := 7) hx hb dX5_fewestFor_0 (by decide) ?_
  refine lv_istore_n (lv' := [(2, .int 7), (0, .ref a_sets), (1, .int v1)]) hx hb dX5_fewestFor_2 rfl hl (by decide) rfl (fun ls hl => ?_)
  refine lv_iload_n hx hb dX5_fewestFor_3 rfl (lv_at hl 2 rfl) ?_
  refine lv_istore_n (lv' := [(3, .int v1), (2, .int 7), (0, .ref a_sets), (1, .int v1)]) hx hb dX5_fewestFor_4 rfl hl (by decide) rfl (fun ls hl => ?_)
  exact L5  FU 7 v1 hf _ _ _ ⟨hP, hD⟩ hS (lv_sub hl [2, 3, 1, 0] rfl)
abbrev rmX5_fewestShelves : Room := { frames := 2, cells := 0, slots := 0, locals := 45 }
theorem hiX5_fewestShelves_5 : ∀ w ∈ wsX50, w ∈ wsX5_fewestShelves := fun w h => (goodIn_r (big := wsX5_fewestShelves) wsX50 [24, 25, 26, 27, 28, 29] rfl (by decide +kernel) w h).1
theorem cw_X5_fewestShelves_X5_isFilled_60 {s : State} {args : Array Value} (hts : ∀ x ∈ wsX5_fewestShelves, x.before args s = true) : CallW rmX5_fewestShelves s args RX5 RX5 60 yX5_isFilled cX5_isFilled 2 (some .boolean) wsX5_isFilled rmX5_isFilled 0 0 1 := cwV 1 hts gX5_fewestShelves_X5_isFilled rfl rfl rfl (by decide +kernel) ⟨Nat.le_of_ble_eq_true rfl, Nat.le_of_ble_eq_true rfl⟩
theorem cw_X5_fewestShelves_X5_fewestFor_64 {s : State} {args : Array Value} (hts : ∀ x ∈ wsX5_fewestShelves, x.before args s = true) : CallW rmX5_fewestShelves s args RX5 RX5 64 yX5_fewestFor cX5_fewestFor 4 (some .int) wsX5_fewestFor rmX5_fewestFor 0 0 1 := cwV 1 hts gX5_fewestShelves_X5_fewestFor rfl rfl rfl (by decide +kernel) ⟨Nat.le_of_ble_eq_true rfl, Nat.le_of_ble_eq_true rfl⟩
set_option maxRecDepth 100000 in
set_option maxHeartbeats 4000000 in
theorem c_X5_fewestShelves (l : Launch) (D : va_G) (cI cZ cR : ClassId) (a_sets : Nat) (a_sets_weights : Nat) (a_sets_fewest : Nat) (sets_size : Int32) (sets_shelf : Int32) (sets_hail : Int32) (sets_filled : Int32) (sets_weights : Nat → Int32) (sets_fewest : Nat → Int32) (out : Int32 × (Nat → Int32)) (hf : f_X5_fewestShelves sets_size sets_shelf sets_hail sets_filled sets_weights sets_fewest = some out) : Ci l yX5_fewestShelves wsX5_fewestShelves rmX5_fewestShelves D cI cZ cR [.ref a_sets] [(a_sets, .inr (5, [.ref a_sets_weights, .ref a_sets_fewest, .int sets_size, .int sets_shelf, .int sets_hail, .int sets_filled])), (a_sets_weights, .inl (cI, 128, .inl sets_weights)), (a_sets_fewest, .inl (cI, 128, .inl sets_fewest))] out.1 [(a_sets, .inr (5, [.ref a_sets_weights, .ref a_sets_fewest, .int sets_size, .int sets_shelf, .int sets_hail, .int sets_filled])), (a_sets_weights, .inl (cI, 128, .inl sets_weights)), (a_sets_fewest, .inl (cI, 128, .inl out.2))] := by
  refine ent_i (cc := cX5_fewestShelves) (maxL := 2) .int (by decide) rfl (Nat.le_of_ble_eq_true rfl) ?_
  intro p e s m below meth c A Q hx hb hml hown hts hE hA hP hD hS hret ls hl
  have hown : s.vm.findClass RX5 = some m.cls := hown
  have hl : lv_has ls 2 [(0, .ref a_sets)] := hl
  have fL9 := hts (.fieldLink RX5 9 "RainShelves$Sets" "weights" "[I") (List.mem_of_getElem? (i := 2) rfl)
  have fL15 := hts (.fieldLink RX5 15 "RainShelves$Sets" "fewest" "[I") (List.mem_of_getElem? (i := 4) rfl)
  have fL18 := hts (.fieldLink RX5 18 "RainShelves$Sets" "size" "I") (List.mem_of_getElem? (i := 1) rfl)
  have fL27 := hts (.fieldLink RX5 27 "RainShelves$Sets" "shelf" "I") (List.mem_of_getElem? (i := 3) rfl)
  have fL35 := hts (.fieldLink RX5 35 "RainShelves$Sets" "filled" "I") (List.mem_of_getElem? (i := 5) rfl)
  unfold f_X5_fewestShelves at hf
  have L42 : ∀ (n42 : Nat) (v1_42 : Int32) (sets_fewest_42 : Nat → Int32), f_X5_fewestShelves_L42 sets_size sets_shelf sets_hail sets_filled sets_weights n42 v1_42 sets_fewest_42 = some out → ∀ (H : Heap) (locs : List Loc) (ls : Array Slot), PD D A [(a_sets, .inr (5, [.ref a_sets_weights, .ref a_sets_fewest, .int sets_size, .int sets_shelf, .int sets_hail, .int sets_filled])), (a_sets_weights, .inl (cI, 128, .inl sets_weights)), (a_sets_fewest, .inl (cI, 128, .inl sets_fewest_42))] H → va_S A s.heap H locs → lv_has ls 2 [(0, .ref a_sets), (1, .int v1_42)] → W p l e rmX5_fewestShelves s m ([.ref a_sets] : List Value).toArray below meth c H locs 0 0 Q (F0 m 42 ls []) := by
    intro  n42
    induction n42 with
    | zero => intro v1_42 sets_fewest_42 hf; cases hf
    | succ n42 ih42 =>
      intro v1_42 sets_fewest_42 hf H locs ls hPD hS hl
      obtain ⟨hP, hD⟩ := hPD
      have hf : f_X5_fewestShelves_B42 sets_size sets_shelf sets_hail sets_filled sets_weights (f_X5_fewestShelves_L42 sets_size sets_shelf sets_hail sets_filled sets_weights n42) v1_42 sets_fewest_42 = some out := hf
      unfold f_X5_fewestShelves_B42 at hf
      refine lv_iload_n hx hb dX5_fewestShelves_42 rfl (lv_at hl 1 rfl) ?_
      refine lv_aload_n hx hb dX5_fewestShelves_43 rfl (lv_at hl 0 rfl) ?_
      refine va_get (D := D) (ci := 5) (v := .int sets_size) (C := RX5) (T := TX5) (N := 6) hx hb hts hiX5_fewestShelves_5 hown hE.1 hP 0 rfl rfl 2 (by decide) fL18 (fun _ h9 => h9) rfl dX5_fewestShelves_44 ?_
      refine lv_icmp_ge (tgt := 75) hx hb dX5_fewestShelves_47 (by decide) (fun hc1 => ?_) (fun hc1 => ?_)
      · have hf := if_t hf hc1
        refine lv_aload_n hx hb dX5_fewestShelves_75 rfl (lv_at hl 0 rfl) ?_
        refine va_get (D := D) (ci := 5) (v := .ref a_sets_fewest) (C := RX5) (T := TX5) (N := 6) hx hb hts hiX5_fewestShelves_5 hown hE.1 hP 0 rfl rfl 1 (by decide) fL15 (fun _ h9 => h9) rfl dX5_fewestShelves_76 ?_
        refine lv_aload_n hx hb dX5_fewestShelves_79 rfl (lv_at hl 0 rfl) ?_
        refine va_get (D := D) (ci := 5) (v := .int sets_filled) (C := RX5) (T := TX5) (N := 6) hx hb hts hiX5_fewestShelves_5 hown hE.1 hP 0 rfl rfl 5 (by decide) fL35 (fun _ h9 => h9) rfl dX5_fewestShelves_80 ?_
        obtain ⟨hc2, hf⟩ := ck_some hf
        refine va_iald hx hb hE.1 hP 2 0 rfl rfl (ix_in hc2) dX5_fewestShelves_83 ?_
        have he := Option.some.inj hf
        subst he
        exact hret _ _ _ _ dX5_fewestShelves_84 rfl hP hD hS
      · have hf := if_f hf hc1
        refine lv_aload_n hx hb dX5_fewestShelves_50 rfl (lv_at hl 0 rfl) ?_
        refine lv_iload_n hx hb dX5_fewestShelves_51 rfl (lv_at hl 1 rfl) ?_
        obtain ⟨u1, hu1, hf⟩ := bd_some hf
        refine cl_iV (As := [.int v1_42]) (rest := []) ⟨hx, hb, hml, hown, hts⟩ (c_X5_isFilled l D cI cZ cR a_sets a_sets_weights a_sets_fewest sets_size sets_shelf sets_hail sets_filled v1_42 u1 hu1) (cw_X5_fewestShelves_X5_isFilled_60 hts) hE hP hD hS hA [0] rfl rfl [a_sets] rfl rfl 0 5 rfl rfl rfl hl.1 rfl (Nat.le_of_ble_eq_true rfl) dX5_fewestShelves_52 ⟨Nat.zero_le _, Nat.zero_le _⟩ (fun H locs hP hD hS => ?_)
        have hPD : PD D A [(a_sets, .inr (5, [.ref a_sets_weights, .ref a_sets_fewest, .int sets_size, .int sets_shelf, .int sets_hail, .int sets_filled])), (a_sets_weights, .inl (cI, 128, .inl sets_weights)), (a_sets_fewest, .inl (cI, 128, .inl sets_fewest_42))] H := ⟨hP, hD⟩
        obtain ⟨hP, hD⟩ := hPD
        refine lv_if_eq (tgt := 69) hx hb dX5_fewestShelves_55 (by decide) (fun hc3 => ?_) (fun hc3 => ?_)
        · have hf := if_t hf hc3
          refine lv_iinc (v := (v1_42 + 1)) (lv' := [(1, .int (v1_42 + 1)), (0, .ref a_sets)]) hx hb dX5_fewestShelves_69 hl (k := 1) rfl (ii_p1 _) (by decide) rfl (fun ls hl => ?_)
          refine lv_goto (tgt := 42) hx hb dX5_fewestShelves_72 (by decide) ?_
          exact ih42 (v1_42 + 1) sets_fewest_42 hf _ _ _ ⟨hP, hD⟩ hS (lv_sub hl [1, 0] rfl)
        · have hf := if_f hf hc3
          refine lv_aload_n hx hb dX5_fewestShelves_58 rfl (lv_at hl 0 rfl) ?_
          refine va_get (D := D) (ci := 5) (v := .ref a_sets_fewest) (C := RX5) (T := TX5) (N := 6) hx hb hts hiX5_fewestShelves_5 hown hE.1 hP 0 rfl rfl 1 (by decide) fL15 (fun _ h9 => h9) rfl dX5_fewestShelves_59 ?_
          refine lv_iload_n hx hb dX5_fewestShelves_62 rfl (lv_at hl 1 rfl) ?_
          refine lv_aload_n hx hb dX5_fewestShelves_63 rfl (lv_at hl 0 rfl) ?_
          refine lv_iload_n hx hb dX5_fewestShelves_64 rfl (lv_at hl 1 rfl) ?_
          obtain ⟨u2, hu2, hf⟩ := bd_some hf
          refine cl_iV (As := [.int v1_42]) (rest := [.int v1_42, .ref a_sets_fewest]) ⟨hx, hb, hml, hown, hts⟩ (c_X5_fewestFor l D cI cZ cR a_sets a_sets_weights a_sets_fewest sets_size sets_shelf sets_hail sets_filled sets_weights sets_fewest_42 v1_42 u2 hu2) (cw_X5_fewestShelves_X5_fewestFor_64 hts) hE hP hD hS hA [0, 1, 2] rfl rfl [a_sets, a_sets_weights, a_sets_fewest] rfl rfl 0 5 rfl rfl rfl hl.1 rfl (Nat.le_of_ble_eq_true rfl) dX5_fewestShelves_65 ⟨Nat.zero_le _, Nat.zero_le _⟩ (fun H locs hP hD hS => ?_)
          have hPD : PD D A [(a_sets, .inr (5, [.ref a_sets_weights, .ref a_sets_fewest, .int sets_size, .int sets_shelf, .int sets_hail, .int sets_filled])), (a_sets_weights, .inl (cI, 128, .inl sets_weights)), (a_sets_fewest, .inl (cI, 128, .inl sets_fewest_42))] H := ⟨hP, hD⟩
          obtain ⟨hP, hD⟩ := hPD
          obtain ⟨hc4, hf⟩ := ck_some hf
          refine va_iast hx hb hE.1 hP hD hS 2 0 rfl rfl (ix_in hc4) dX5_fewestShelves_68 (fun H locs hP hD hS => ?_)
          have hPD : PD D A [(a_sets, .inr (5, [.ref a_sets_weights, .ref a_sets_fewest, .int sets_size, .int sets_shelf, .int sets_hail, .int sets_filled])), (a_sets_weights, .inl (cI, 128, .inl sets_weights)), (a_sets_fewest, .inl (cI, 128, .inl (upd sets_fewest_42 v1_42.toNatClampNeg u2)))] H := ⟨hP, hD⟩
          obtain ⟨hP, hD⟩ := hPD
          refine lv_iinc (v := (v1_42 + 1)) (lv' := [(1, .int (v1_42 + 1)), (0, .ref a_sets)]) hx hb dX5_fewestShelves_69 hl (k := 1) rfl (ii_p1 _) (by decide) rfl (fun ls hl => ?_)
          refine lv_goto (tgt := 42) hx hb dX5_fewestShelves_72 (by decide) ?_
          exact ih42 (v1_42 + 1) (upd sets_fewest_42 v1_42.toNatClampNeg u2) hf _ _ _ ⟨hP, hD⟩ hS (lv_sub hl [1, 0] rfl)
  have J33 : f_X5_fewestShelves_J33 sets_size sets_shelf sets_hail sets_filled sets_weights sets_fewest = some out → ∀ (H : Heap) (locs : List Loc) (ls : Array Slot), PD D A [(a_sets, .inr (5, [.ref a_sets_weights, .ref a_sets_fewest, .int sets_size, .int sets_shelf, .int sets_hail, .int sets_filled])), (a_sets_weights, .inl (cI, 128, .inl sets_weights)), (a_sets_fewest, .inl (cI, 128, .inl sets_fewest))] H → va_S A s.heap H locs → lv_has ls 2 [(0, .ref a_sets)] → W p l e rmX5_fewestShelves s m ([.ref a_sets] : List Value).toArray below meth c H locs 0 0 Q (F0 m 33 ls []) := by
    intro  hf H locs ls hPD hS hl
    obtain ⟨hP, hD⟩ := hPD
    unfold f_X5_fewestShelves_J33 at hf
    refine lv_aload_n hx hb dX5_fewestShelves_33 rfl (lv_at hl 0 rfl) ?_
    refine va_get (D := D) (ci := 5) (v := .ref a_sets_fewest) (C := RX5) (T := TX5) (N := 6) hx hb hts hiX5_fewestShelves_5 hown hE.1 hP 0 rfl rfl 1 (by decide) fL15 (fun _ h9 => h9) rfl dX5_fewestShelves_34 ?_
    refine lv_iconst (v := 0) hx hb dX5_fewestShelves_37 (by decide) ?_
    refine lv_iconst (v := 0) hx hb dX5_fewestShelves_38 (by decide) ?_
    obtain ⟨hc5, hf⟩ := ck_some hf
    refine va_iast hx hb hE.1 hP hD hS 2 0 rfl rfl (ix_in hc5) dX5_fewestShelves_39 (fun H locs hP hD hS => ?_)
    have hPD : PD D A [(a_sets, .inr (5, [.ref a_sets_weights, .ref a_sets_fewest, .int sets_size, .int sets_shelf, .int sets_hail, .int sets_filled])), (a_sets_weights, .inl (cI, 128, .inl sets_weights)), (a_sets_fewest, .inl (cI, 128, .inl (upd sets_fewest (0 : Int32).toNatClampNeg 0)))] H := ⟨hP, hD⟩
    obtain ⟨hP, hD⟩ := hPD
    refine lv_iconst (v := 1) hx hb dX5_fewestShelves_40 (by decide) ?_
    refine lv_istore_n (lv' := [(1, .int 1), (0, .ref a_sets)]) hx hb dX5_fewestShelves_41 rfl hl (by decide) rfl (fun ls hl => ?_)
    exact L42  FU 1 (upd sets_fewest (0 : Int32).toNatClampNeg 0) hf _ _ _ ⟨hP, hD⟩ hS (lv_sub hl [1, 0] rfl)
  have L2 : ∀ (n2 : Nat) (v1_2 : Int32), f_X5_fewestShelves_L2 sets_size sets_shelf sets_hail sets_filled sets_weights sets_fewest n2 v1_2 = some out → ∀ (H : Heap) (locs : List Loc) (ls : Array Slot), PD D A [(a_sets, .inr (5, [.ref a_sets_weights, .ref a_sets_fewest, .int sets_size, .int sets_shelf, .int sets_hail, .int sets_filled])), (a_sets_weights, .inl (cI, 128, .inl sets_weights)), (a_sets_fewest, .inl (cI, 128, .inl sets_fewest))] H → va_S A s.heap H locs → lv_has ls 2 [(0, .ref a_sets), (1, .int v1_2)] → W p l e rmX5_fewestShelves s m ([.ref a_sets] : List Value).toArray below meth c H locs 0 0 Q (F0 m 2 ls []) := by
    intro  n2
    induction n2 with
    | zero => intro v1_2 hf; cases hf
    | succ n2 ih2 =>
      intro v1_2 hf H locs ls hPD hS hl
      obtain ⟨hP, hD⟩ := hPD
      have hf : f_X5_fewestShelves_B2 sets_size sets_shelf sets_hail sets_filled sets_weights sets_fewest (f_X5_fewestShelves_L2 sets_size sets_shelf sets_hail sets_filled sets_weights sets_fewest n2) v1_2 = some out := hf
      unfold f_X5_fewestShelves_B2 at hf
      refine lv_iload_n hx hb dX5_fewestShelves_2 rfl (lv_at hl 1 rfl) ?_
      refine lv_aload_n hx hb dX5_fewestShelves_3 rfl (lv_at hl 0 rfl) ?_
      refine va_get (D := D) (ci := 5) (v := .int sets_size) (C := RX5) (T := TX5) (N := 6) hx hb hts hiX5_fewestShelves_5 hown hE.1 hP 0 rfl rfl 2 (by decide) fL18 (fun _ h9 => h9) rfl dX5_fewestShelves_4 ?_
      refine lv_icmp_ge (tgt := 33) hx hb dX5_fewestShelves_7 (by decide) (fun hc6 => ?_) (fun hc6 => ?_)
      · have hf := if_t hf hc6
        exact J33  hf _ _ _ ⟨hP, hD⟩ hS (lv_sub hl [0] rfl)
      · have hf := if_f hf hc6
        refine lv_aload_n hx hb dX5_fewestShelves_10 rfl (lv_at hl 0 rfl) ?_
        refine va_get (D := D) (ci := 5) (v := .ref a_sets_weights) (C := RX5) (T := TX5) (N := 6) hx hb hts hiX5_fewestShelves_5 hown hE.1 hP 0 rfl rfl 0 (by decide) fL9 (fun _ h9 => h9) rfl dX5_fewestShelves_11 ?_
        refine lv_iload_n hx hb dX5_fewestShelves_14 rfl (lv_at hl 1 rfl) ?_
        obtain ⟨hc7, hf⟩ := ck_some hf
        refine va_iald hx hb hE.1 hP 1 0 rfl rfl (ix_in hc7) dX5_fewestShelves_15 ?_
        refine lv_aload_n hx hb dX5_fewestShelves_16 rfl (lv_at hl 0 rfl) ?_
        refine va_get (D := D) (ci := 5) (v := .int sets_shelf) (C := RX5) (T := TX5) (N := 6) hx hb hts hiX5_fewestShelves_5 hown hE.1 hP 0 rfl rfl 3 (by decide) fL27 (fun _ h9 => h9) rfl dX5_fewestShelves_17 ?_
        refine lv_icmp_le (tgt := 26) hx hb dX5_fewestShelves_20 (by decide) (fun hc8 => ?_) (fun hc8 => ?_)
        · have hf := if_t hf hc8
          refine lv_iload_n hx hb dX5_fewestShelves_26 rfl (lv_at hl 1 rfl) ?_
          refine lv_iconst (v := 2) hx hb dX5_fewestShelves_27 (by decide) ?_
          refine lv_imul hx hb dX5_fewestShelves_28 ?_
          refine lv_istore_n (lv' := [(1, .int (v1_2 * 2)), (0, .ref a_sets)]) hx hb dX5_fewestShelves_29 rfl hl (by decide) rfl (fun ls hl => ?_)
          refine lv_goto (tgt := 2) hx hb dX5_fewestShelves_30 (by decide) ?_
          exact ih2 (v1_2 * 2) hf _ _ _ ⟨hP, hD⟩ hS (lv_sub hl [1, 0] rfl)
        · have hf := if_f hf hc8
          refine lv_bipush (v := (-9)) hx hb dX5_fewestShelves_23 (by decide) ?_
          have he := Option.some.inj hf
          subst he
          exact hret _ _ _ _ dX5_fewestShelves_25 rfl hP hD hS
  refine lv_iconst (v := 1) hx hb dX5_fewestShelves_0 (by decide) ?_
  refine lv_istore_n (lv' := [(1, .int 1), (0, .ref a_sets)]) hx hb dX5_fewestShelves_1 rfl hl (by decide) rfl (fun ls hl => ?_)
  exact L2  FU 1 hf _ _ _ ⟨hP, hD⟩ hS (lv_sub hl [1, 0] rfl)
abbrev rmX5_mostBeside : Room := { frames := 1, cells := 0, slots := 0, locals := 22 }
theorem hiX5_mostBeside_5 : ∀ w ∈ wsX50, w ∈ wsX5_mostBeside := fun w h => (goodIn_r (big := wsX5_mostBeside) wsX50 [26, 27, 28, 29, 30, 31] rfl (by decide +kernel) w h).1
theorem cw_X5_mostBeside_X5_isFilled_60 {s : State} {args : Array Value} (hts : ∀ x ∈ wsX5_mostBeside, x.before args s = true) : CallW rmX5_mostBeside s args RX5 RX5 60 yX5_isFilled cX5_isFilled 2 (some .boolean) wsX5_isFilled rmX5_isFilled 0 0 1 := cwV 1 hts gX5_mostBeside_X5_isFilled rfl rfl rfl (by decide +kernel) ⟨Nat.le_of_ble_eq_true rfl, Nat.le_of_ble_eq_true rfl⟩
theorem cw_X5_mostBeside_X5_fitsOneShelf_67 {s : State} {args : Array Value} (hts : ∀ x ∈ wsX5_mostBeside, x.before args s = true) : CallW rmX5_mostBeside s args RX5 RX5 67 yX5_fitsOneShelf cX5_fitsOneShelf 3 (some .boolean) wsX5_fitsOneShelf rmX5_fitsOneShelf 0 0 1 := cwV 1 hts gX5_mostBeside_X5_fitsOneShelf rfl rfl rfl (by decide +kernel) ⟨Nat.le_of_ble_eq_true rfl, Nat.le_of_ble_eq_true rfl⟩
theorem cw_X5_mostBeside_J6_bitCount_0f7a4_47 {s : State} {args : Array Value} (hts : ∀ x ∈ wsX5_mostBeside, x.before args s = true) : CallB rmX5_mostBeside s args RX5 47 yJ6_bitCount_0f7a4 cJ6_bitCount_0f7a4 1 (some .int) wsJ6_bitCount_0f7a4 rmJ6_bitCount_0f7a4 0 0 1 ∧ (Cond.static yJ6_bitCount_0f7a4).before args s = true := va_cwS 1 hts gX5_mostBeside_J6_bitCount_0f7a4 rfl rfl rfl (by decide +kernel) ⟨Nat.le_of_ble_eq_true rfl, Nat.le_of_ble_eq_true rfl⟩
set_option maxRecDepth 100000 in
set_option maxHeartbeats 4000000 in
theorem c_X5_mostBeside (l : Launch) (D : va_G) (cI cZ cR : ClassId) (a_sets : Nat) (a_sets_weights : Nat) (a_sets_fewest : Nat) (sets_size : Int32) (sets_shelf : Int32) (sets_hail : Int32) (sets_filled : Int32) (sets_weights : Nat → Int32) (v1 : Int32) (out : Int32) (hf : f_X5_mostBeside sets_size sets_shelf sets_hail sets_filled sets_weights v1 = some out) : Ci l yX5_mostBeside wsX5_mostBeside rmX5_mostBeside D cI cZ cR [.ref a_sets, .int v1] [(a_sets, .inr (5, [.ref a_sets_weights, .ref a_sets_fewest, .int sets_size, .int sets_shelf, .int sets_hail, .int sets_filled])), (a_sets_weights, .inl (cI, 128, .inl sets_weights))] out [(a_sets, .inr (5, [.ref a_sets_weights, .ref a_sets_fewest, .int sets_size, .int sets_shelf, .int sets_hail, .int sets_filled])), (a_sets_weights, .inl (cI, 128, .inl sets_weights))] := by
  refine ent_i (cc := cX5_mostBeside) (maxL := 5) .int (by decide) rfl (Nat.le_of_ble_eq_true rfl) ?_
  intro p e s m below meth c A Q hx hb hml hown hts hE hA hP hD hS hret ls hl
  have hown : s.vm.findClass RX5 = some m.cls := hown
  have hl : lv_has ls 5 [(0, .ref a_sets), (1, .int v1)] := hl
  have fL18 := hts (.fieldLink RX5 18 "RainShelves$Sets" "size" "I") (List.mem_of_getElem? (i := 1) rfl)
  have mBmax := hts (.static Lib.Math.max.name) (List.mem_of_getElem? (i := 3) rfl)
  have mDmax := hts (.code Lib.Math.max.name Lib.Math.max.code 2 (some .int)) (List.mem_of_getElem? (i := 5) rfl)
  have mC := hts (.initialized "java/lang/Math") (List.mem_of_getElem? (i := 4) rfl)
  have mA75 := hts (.methodLink RX5 75 Lib.Math.max.name) (List.mem_of_getElem? (i := 2) rfl)
  unfold f_X5_mostBeside at hf
  have J64 : ∀ (v2_64 : Int32), f_X5_mostBeside_J64 v2_64 = some out → ∀ (H : Heap) (locs : List Loc) (ls : Array Slot), PD D A [(a_sets, .inr (5, [.ref a_sets_weights, .ref a_sets_fewest, .int sets_size, .int sets_shelf, .int sets_hail, .int sets_filled])), (a_sets_weights, .inl (cI, 128, .inl sets_weights))] H → va_S A s.heap H locs → lv_has ls 5 [(2, .int v2_64)] → W p l e rmX5_mostBeside s m ([.ref a_sets, .int v1] : List Value).toArray below meth c H locs 0 0 Q (F0 m 64 ls []) := by
    intro v2_64 hf H locs ls hPD hS hl
    obtain ⟨hP, hD⟩ := hPD
    unfold f_X5_mostBeside_J64 at hf
    refine lv_iload_n hx hb dX5_mostBeside_64 rfl (lv_at hl 0 rfl) ?_
    refine lv_if_ne (tgt := 73) hx hb dX5_mostBeside_65 (by decide) (fun hc1 => ?_) (fun hc1 => ?_)
    · have hf := if_f hf hc1
      refine lv_iload_n hx hb dX5_mostBeside_73 rfl (lv_at hl 0 rfl) ?_
      refine lv_iconst (v := 1) hx hb dX5_mostBeside_74 (by decide) ?_
      refine lv_isub hx hb dX5_mostBeside_75 ?_
      have he := Option.some.inj hf
      subst he
      exact hret _ _ _ _ dX5_mostBeside_76 rfl hP hD hS
    · have hf := if_t hf hc1
      refine lv_bipush (v := (-9)) hx hb dX5_mostBeside_68 (by decide) ?_
      refine lv_goto (tgt := 76) hx hb dX5_mostBeside_70 (by decide) ?_
      have he := Option.some.inj hf
      subst he
      exact hret _ _ _ _ dX5_mostBeside_76 rfl hP hD hS
  have L4 : ∀ (n4 : Nat) (v2_4 : Int32) (v3_4 : Int32), f_X5_mostBeside_L4 sets_size sets_shelf sets_hail sets_filled sets_weights v1 n4 v2_4 v3_4 = some out → ∀ (H : Heap) (locs : List Loc) (ls : Array Slot), PD D A [(a_sets, .inr (5, [.ref a_sets_weights, .ref a_sets_fewest, .int sets_size, .int sets_shelf, .int sets_hail, .int sets_filled])), (a_sets_weights, .inl (cI, 128, .inl sets_weights))] H → va_S A s.heap H locs → lv_has ls 5 [(0, .ref a_sets), (1, .int v1), (2, .int v2_4), (3, .int v3_4)] → W p l e rmX5_mostBeside s m ([.ref a_sets, .int v1] : List Value).toArray below meth c H locs 0 0 Q (F0 m 4 ls []) := by
    intro  n4
    induction n4 with
    | zero => intro v2_4 v3_4 hf; cases hf
    | succ n4 ih4 =>
      intro v2_4 v3_4 hf H locs ls hPD hS hl
      obtain ⟨hP, hD⟩ := hPD
      have hf : f_X5_mostBeside_B4 sets_size sets_shelf sets_hail sets_filled sets_weights v1 (f_X5_mostBeside_L4 sets_size sets_shelf sets_hail sets_filled sets_weights v1 n4) v2_4 v3_4 = some out := hf
      unfold f_X5_mostBeside_B4 at hf
      have J26 : ∀ (s0_26 : Int32), f_X5_mostBeside_J26 sets_shelf sets_hail sets_filled sets_weights v2_4 v3_4 (f_X5_mostBeside_L4 sets_size sets_shelf sets_hail sets_filled sets_weights v1 n4) s0_26 = some out → ∀ (H : Heap) (locs : List Loc) (ls : Array Slot), PD D A [(a_sets, .inr (5, [.ref a_sets_weights, .ref a_sets_fewest, .int sets_size, .int sets_shelf, .int sets_hail, .int sets_filled])), (a_sets_weights, .inl (cI, 128, .inl sets_weights))] H → va_S A s.heap H locs → lv_has ls 5 [(0, .ref a_sets), (1, .int v1), (2, .int v2_4), (3, .int v3_4)] → W p l e rmX5_mostBeside s m ([.ref a_sets, .int v1] : List Value).toArray below meth c H locs 0 0 Q (F0 m 26 ls [.int s0_26]) := by
        intro s0_26 hf H locs ls hPD hS hl
        obtain ⟨hP, hD⟩ := hPD
        unfold f_X5_mostBeside_J26 at hf
        refine lv_istore (lv' := [(4, .int s0_26), (0, .ref a_sets), (1, .int v1), (2, .int v2_4), (3, .int v3_4)]) hx hb dX5_mostBeside_26 hl (by decide) rfl (fun ls hl => ?_)
        refine lv_iload hx hb dX5_mostBeside_28 (lv_at hl 0 rfl) ?_
        refine lv_if_eq (tgt := 58) hx hb dX5_mostBeside_30 (by decide) (fun hc2 => ?_) (fun hc2 => ?_)
        · have hf := if_t hf hc2
          refine lv_iinc (v := (v3_4 + 1)) (lv' := [(3, .int (v3_4 + 1)), (4, .int s0_26), (0, .ref a_sets), (1, .int v1), (2, .int v2_4)]) hx hb dX5_mostBeside_58 hl (k := 4) rfl (ii_p1 _) (by decide) rfl (fun ls hl => ?_)
          refine lv_goto (tgt := 4) hx hb dX5_mostBeside_61 (by decide) ?_
          exact ih4 v2_4 (v3_4 + 1) hf _ _ _ ⟨hP, hD⟩ hS (lv_sub hl [2, 3, 4, 0] rfl)
        · have hf := if_f hf hc2
          refine lv_aload_n hx hb dX5_mostBeside_33 rfl (lv_at hl 1 rfl) ?_
          refine lv_iload_n hx hb dX5_mostBeside_34 rfl (lv_at hl 4 rfl) ?_
          obtain ⟨u1, hu1, hf⟩ := bd_some hf
          refine cl_iV (As := [.int v3_4]) (rest := []) ⟨hx, hb, hml, hown, hts⟩ (c_X5_isFilled l D cI cZ cR a_sets a_sets_weights a_sets_fewest sets_size sets_shelf sets_hail sets_filled v3_4 u1 hu1) (cw_X5_mostBeside_X5_isFilled_60 hts) hE hP hD hS hA [0] rfl rfl [a_sets] rfl rfl 0 5 rfl rfl rfl hl.1 rfl (Nat.le_of_ble_eq_true rfl) dX5_mostBeside_35 ⟨Nat.zero_le _, Nat.zero_le _⟩ (fun H locs hP hD hS => ?_)
          have hPD : PD D A [(a_sets, .inr (5, [.ref a_sets_weights, .ref a_sets_fewest, .int sets_size, .int sets_shelf, .int sets_hail, .int sets_filled])), (a_sets_weights, .inl (cI, 128, .inl sets_weights))] H := ⟨hP, hD⟩
          obtain ⟨hP, hD⟩ := hPD
          refine lv_if_eq (tgt := 58) hx hb dX5_mostBeside_38 (by decide) (fun hc3 => ?_) (fun hc3 => ?_)
          · have hf := if_t hf hc3
            refine lv_iinc (v := (v3_4 + 1)) (lv' := [(3, .int (v3_4 + 1)), (4, .int s0_26), (0, .ref a_sets), (1, .int v1), (2, .int v2_4)]) hx hb dX5_mostBeside_58 hl (k := 4) rfl (ii_p1 _) (by decide) rfl (fun ls hl => ?_)
            refine lv_goto (tgt := 4) hx hb dX5_mostBeside_61 (by decide) ?_
            exact ih4 v2_4 (v3_4 + 1) hf _ _ _ ⟨hP, hD⟩ hS (lv_sub hl [2, 3, 4, 0] rfl)
          · have hf := if_f hf hc3
            refine lv_aload_n hx hb dX5_mostBeside_41 rfl (lv_at hl 1 rfl) ?_
            refine lv_iload_n hx hb dX5_mostBeside_42 rfl (lv_at hl 4 rfl) ?_
            obtain ⟨u2, hu2, hf⟩ := bd_some hf
            refine cl_iV (As := [.int v3_4]) (rest := []) ⟨hx, hb, hml, hown, hts⟩ (c_X5_fitsOneShelf l D cI cZ cR a_sets a_sets_weights a_sets_fewest sets_size sets_shelf sets_hail sets_filled sets_weights v3_4 u2 hu2) (cw_X5_mostBeside_X5_fitsOneShelf_67 hts) hE hP hD hS hA [0, 1] rfl rfl [a_sets, a_sets_weights] rfl rfl 0 5 rfl rfl rfl hl.1 rfl (Nat.le_of_ble_eq_true rfl) dX5_mostBeside_43 ⟨Nat.zero_le _, Nat.zero_le _⟩ (fun H locs hP hD hS => ?_)
            have hPD : PD D A [(a_sets, .inr (5, [.ref a_sets_weights, .ref a_sets_fewest, .int sets_size, .int sets_shelf, .int sets_hail, .int sets_filled])), (a_sets_weights, .inl (cI, 128, .inl sets_weights))] H := ⟨hP, hD⟩
            obtain ⟨hP, hD⟩ := hPD
            refine lv_if_eq (tgt := 58) hx hb dX5_mostBeside_46 (by decide) (fun hc4 => ?_) (fun hc4 => ?_)
            · have hf := if_t hf hc4
              refine lv_iinc (v := (v3_4 + 1)) (lv' := [(3, .int (v3_4 + 1)), (4, .int s0_26), (0, .ref a_sets), (1, .int v1), (2, .int v2_4)]) hx hb dX5_mostBeside_58 hl (k := 4) rfl (ii_p1 _) (by decide) rfl (fun ls hl => ?_)
              refine lv_goto (tgt := 4) hx hb dX5_mostBeside_61 (by decide) ?_
              exact ih4 v2_4 (v3_4 + 1) hf _ _ _ ⟨hP, hD⟩ hS (lv_sub hl [2, 3, 4, 0] rfl)
            · have hf := if_f hf hc4
              refine lv_iload_n hx hb dX5_mostBeside_49 rfl (lv_at hl 3 rfl) ?_
              refine lv_iload_n hx hb dX5_mostBeside_50 rfl (lv_at hl 4 rfl) ?_
              obtain ⟨u3, hu3, hf⟩ := bd_some hf
              refine cl_iS (As := [.int v3_4]) (rest := [.int v2_4]) ⟨hx, hb, hml, hown, hts⟩ (c_J6_bitCount_0f7a4 l D cI cZ cR   v3_4 u3 hu3) (cw_X5_mostBeside_J6_bitCount_0f7a4_47 hts) hE hP hD hS hA rfl hl.1 rfl (Nat.le_of_ble_eq_true rfl) dX5_mostBeside_51 ⟨Nat.zero_le _, Nat.zero_le _⟩ (fun H locs hP hS => ?_)
              refine va_mmax hx hb (hml.trans hl.1.symm) hown mA75 mBmax mC mDmax (Nat.le_of_ble_eq_true rfl) (Nat.le_of_ble_eq_true rfl) (Nat.zero_le _) (Nat.zero_le _) dX5_mostBeside_54 ?_
              refine lv_istore_n (lv' := [(2, .int (if v2_4 < u3 then u3 else v2_4)), (4, .int s0_26), (0, .ref a_sets), (1, .int v1), (3, .int v3_4)]) hx hb dX5_mostBeside_57 rfl hl (by decide) rfl (fun ls hl => ?_)
              refine lv_iinc (v := (v3_4 + 1)) (lv' := [(3, .int (v3_4 + 1)), (2, .int (if v2_4 < u3 then u3 else v2_4)), (4, .int s0_26), (0, .ref a_sets), (1, .int v1)]) hx hb dX5_mostBeside_58 hl (k := 4) rfl (ii_p1 _) (by decide) rfl (fun ls hl => ?_)
              refine lv_goto (tgt := 4) hx hb dX5_mostBeside_61 (by decide) ?_
              exact ih4 (if v2_4 < u3 then u3 else v2_4) (v3_4 + 1) hf _ _ _ ⟨hP, hD⟩ hS (lv_sub hl [3, 4, 1, 0] rfl)
      refine lv_iload_n hx hb dX5_mostBeside_4 rfl (lv_at hl 3 rfl) ?_
      refine lv_aload_n hx hb dX5_mostBeside_5 rfl (lv_at hl 0 rfl) ?_
      refine va_get (D := D) (ci := 5) (v := .int sets_size) (C := RX5) (T := TX5) (N := 6) hx hb hts hiX5_mostBeside_5 hown hE.1 hP 0 rfl rfl 2 (by decide) fL18 (fun _ h9 => h9) rfl dX5_mostBeside_6 ?_
      refine lv_icmp_ge (tgt := 64) hx hb dX5_mostBeside_9 (by decide) (fun hc5 => ?_) (fun hc5 => ?_)
      · have hf := if_t hf hc5
        exact J64 v2_4 hf _ _ _ ⟨hP, hD⟩ hS (lv_sub hl [2] rfl)
      · have hf := if_f hf hc5
        refine lv_iload_n hx hb dX5_mostBeside_12 rfl (lv_at hl 3 rfl) ?_
        refine lv_iload_n hx hb dX5_mostBeside_13 rfl (lv_at hl 1 rfl) ?_
        refine lv_ishr hx hb dX5_mostBeside_14 ?_
        refine lv_iconst (v := 1) hx hb dX5_mostBeside_15 (by decide) ?_
        refine lv_iand hx hb dX5_mostBeside_16 ?_
        refine lv_iconst (v := 1) hx hb dX5_mostBeside_17 (by decide) ?_
        refine lv_icmp_ne (tgt := 25) hx hb dX5_mostBeside_18 (by decide) (fun hc6 => ?_) (fun hc6 => ?_)
        · have hf := if_f hf hc6
          refine lv_iconst (v := 0) hx hb dX5_mostBeside_25 (by decide) ?_
          exact J26 0 hf _ _ _ ⟨hP, hD⟩ hS hl
        · have hf := if_t hf hc6
          refine lv_iconst (v := 1) hx hb dX5_mostBeside_21 (by decide) ?_
          refine lv_goto (tgt := 26) hx hb dX5_mostBeside_22 (by decide) ?_
          exact J26 1 hf _ _ _ ⟨hP, hD⟩ hS hl
  refine lv_iconst (v := 0) hx hb dX5_mostBeside_0 (by decide) ?_
  refine lv_istore_n (lv' := [(2, .int 0), (0, .ref a_sets), (1, .int v1)]) hx hb dX5_mostBeside_1 rfl hl (by decide) rfl (fun ls hl => ?_)
  refine lv_iconst (v := 1) hx hb dX5_mostBeside_2 (by decide) ?_
  refine lv_istore_n (lv' := [(3, .int 1), (2, .int 0), (0, .ref a_sets), (1, .int v1)]) hx hb dX5_mostBeside_3 rfl hl (by decide) rfl (fun ls hl => ?_)
  exact L4  FU 0 1 hf _ _ _ ⟨hP, hD⟩ hS (lv_sub hl [2, 3, 1, 0] rfl)
abbrev rmX6_append : Room := { frames := 0, cells := 0, slots := 0, locals := 0 }
theorem hiX6_append_6 : ∀ w ∈ wsX60, w ∈ wsX6_append := fun w h => (goodIn_r (big := wsX6_append) wsX60 [3, 4, 5, 6, 7, 8, 9, 10, 11] rfl (by decide +kernel) w h).1
set_option maxRecDepth 100000 in
set_option maxHeartbeats 4000000 in
theorem c_X6_append (l : Launch) (D : va_G) (cI cZ cR : ClassId) (a_text : Nat) (a_text_letters : Nat) (a_draft : Nat) (text_length : Int32) (text_leastTold : Int32) (text_shelfTold : Int32) (text_place : Int32) (text_token : Int32) (text_start : Int32) (text_number : Int32) (text_letters : Nat → Int32) (v1 : Int32) (out : Int32 × Int32 × (Nat → Int32)) (hf : f_X6_append text_length text_letters v1 = some out) : Ci l yX6_append wsX6_append rmX6_append D cI cZ cR [.ref a_text, .int v1] [(a_text, .inr (6, [.ref a_text_letters, .int text_length, .ref a_draft, .int text_leastTold, .int text_shelfTold, .int text_place, .int text_token, .int text_start, .int text_number])), (a_text_letters, .inl (cI, 200, .inl text_letters))] out.1 [(a_text, .inr (6, [.ref a_text_letters, .int out.2.1, .ref a_draft, .int text_leastTold, .int text_shelfTold, .int text_place, .int text_token, .int text_start, .int text_number])), (a_text_letters, .inl (cI, 200, .inl out.2.2))] := by
  refine ent_i (cc := cX6_append) (maxL := 2) .boolean (by decide) rfl (Nat.le_of_ble_eq_true rfl) ?_
  intro p e s m below meth c A Q hx hb hml hown hts hE hA hP hD hS hret ls hl
  have hown : s.vm.findClass RX6 = some m.cls := hown
  have hl : lv_has ls 2 [(0, .ref a_text), (1, .int v1)] := hl
  have fL9 := hts (.fieldLink RX6 9 "RainShelves$Text" "letters" "[I") (List.mem_of_getElem? (i := 2) rfl)
  have fL22 := hts (.fieldLink RX6 22 "RainShelves$Text" "length" "I") (List.mem_of_getElem? (i := 1) rfl)
  unfold f_X6_append at hf
  refine lv_aload_n hx hb dX6_append_0 rfl (lv_at hl 0 rfl) ?_
  refine va_get (D := D) (ci := 6) (v := .int text_length) (C := RX6) (T := TX6) (N := 9) hx hb hts hiX6_append_6 hown hE.1 hP 0 rfl rfl 1 (by decide) fL22 (fun _ h9 => h9) rfl dX6_append_1 ?_
  refine lv_sipush (v := 200) hx hb dX6_append_4 (by decide) ?_
  refine lv_icmp_lt (tgt := 12) hx hb dX6_append_7 (by decide) (fun hc1 => ?_) (fun hc1 => ?_)
  · have hf := if_t hf hc1
    refine lv_aload_n hx hb dX6_append_12 rfl (lv_at hl 0 rfl) ?_
    refine va_get (D := D) (ci := 6) (v := .ref a_text_letters) (C := RX6) (T := TX6) (N := 9) hx hb hts hiX6_append_6 hown hE.1 hP 0 rfl rfl 0 (by decide) fL9 (fun _ h9 => h9) rfl dX6_append_13 ?_
    refine lv_aload_n hx hb dX6_append_16 rfl (lv_at hl 0 rfl) ?_
    refine va_get (D := D) (ci := 6) (v := .int text_length) (C := RX6) (T := TX6) (N := 9) hx hb hts hiX6_append_6 hown hE.1 hP 0 rfl rfl 1 (by decide) fL22 (fun _ h9 => h9) rfl dX6_append_17 ?_
    refine lv_iload_n hx hb dX6_append_20 rfl (lv_at hl 1 rfl) ?_
    obtain ⟨hc2, hf⟩ := ck_some hf
    refine va_iast hx hb hE.1 hP hD hS 1 0 rfl rfl (ix_in hc2) dX6_append_21 (fun H locs hP hD hS => ?_)
    have hPD : PD D A [(a_text, .inr (6, [.ref a_text_letters, .int text_length, .ref a_draft, .int text_leastTold, .int text_shelfTold, .int text_place, .int text_token, .int text_start, .int text_number])), (a_text_letters, .inl (cI, 200, .inl (upd text_letters text_length.toNatClampNeg v1)))] H := ⟨hP, hD⟩
    obtain ⟨hP, hD⟩ := hPD
    refine lv_aload_n hx hb dX6_append_22 rfl (lv_at hl 0 rfl) ?_
    refine lv_dup hx hb dX6_append_23 rfl ?_
    refine va_get (D := D) (ci := 6) (v := .int text_length) (C := RX6) (T := TX6) (N := 9) hx hb hts hiX6_append_6 hown hE.1 hP 0 rfl rfl 1 (by decide) fL22 (fun _ h9 => h9) rfl dX6_append_24 ?_
    refine lv_iconst (v := 1) hx hb dX6_append_27 (by decide) ?_
    refine lv_iadd hx hb dX6_append_28 ?_
    refine va_put (D := D) (ci := 6) (v := .int (text_length + 1)) (ty := .int) (C := RX6) (T := TX6) (N := 9) hx hb hts hiX6_append_6 tyX6 tyX6_ok nmX6 hown hE.1 hP hD hS 0 rfl rfl 1 (by decide) fL22 (fun _ h9 => h9) rfl (tyX6_ok 1 (by decide)) rfl rfl (Nat.le_of_ble_eq_true rfl) dX6_append_29 (fun H locs hP hD hS => ?_)
    have hPD : PD D A [(a_text, .inr (6, [.ref a_text_letters, .int (text_length + 1), .ref a_draft, .int text_leastTold, .int text_shelfTold, .int text_place, .int text_token, .int text_start, .int text_number])), (a_text_letters, .inl (cI, 200, .inl (upd text_letters text_length.toNatClampNeg v1)))] H := ⟨hP, hD⟩
    obtain ⟨hP, hD⟩ := hPD
    refine lv_iconst (v := 1) hx hb dX6_append_32 (by decide) ?_
    have he := Option.some.inj hf
    subst he
    exact hret _ _ _ _ dX6_append_33 bn1 hP hD hS
  · have hf := if_f hf hc1
    refine lv_iconst (v := 0) hx hb dX6_append_10 (by decide) ?_
    have he := Option.some.inj hf
    subst he
    exact hret _ _ _ _ dX6_append_11 bn0 hP hD hS
abbrev rmX6_isDigit : Room := { frames := 0, cells := 0, slots := 0, locals := 0 }
set_option maxRecDepth 100000 in
set_option maxHeartbeats 4000000 in
theorem c_X6_isDigit (l : Launch) (D : va_G) (cI cZ cR : ClassId) (v0 : Int32) (out : Int32) (hf : f_X6_isDigit v0 = some out) : Ci l yX6_isDigit wsX6_isDigit rmX6_isDigit D cI cZ cR [.int v0] [] out [] := by
  refine ent_i (cc := cX6_isDigit) (maxL := 1) .boolean (by decide) rfl (Nat.le_of_ble_eq_true rfl) ?_
  intro p e s m below meth c A Q hx hb hml hown hts hE hA hP hD hS hret ls hl
  have hown : s.vm.findClass RX6 = some m.cls := hown
  have hl : lv_has ls 1 [(0, .int v0)] := hl
  unfold f_X6_isDigit at hf
  refine lv_iload_n hx hb dX6_isDigit_0 rfl (lv_at hl 0 rfl) ?_
  refine lv_bipush (v := 48) hx hb dX6_isDigit_1 (by decide) ?_
  refine lv_icmp_lt (tgt := 16) hx hb dX6_isDigit_3 (by decide) (fun hc1 => ?_) (fun hc1 => ?_)
  · have hf := if_t hf hc1
    refine lv_iconst (v := 0) hx hb dX6_isDigit_16 (by decide) ?_
    have he := Option.some.inj hf
    subst he
    exact hret _ _ _ _ dX6_isDigit_17 bn0 hP hD hS
  · have hf := if_f hf hc1
    refine lv_iload_n hx hb dX6_isDigit_6 rfl (lv_at hl 0 rfl) ?_
    refine lv_bipush (v := 57) hx hb dX6_isDigit_7 (by decide) ?_
    refine lv_icmp_gt (tgt := 16) hx hb dX6_isDigit_9 (by decide) (fun hc2 => ?_) (fun hc2 => ?_)
    · have hf := if_t hf hc2
      refine lv_iconst (v := 0) hx hb dX6_isDigit_16 (by decide) ?_
      have he := Option.some.inj hf
      subst he
      exact hret _ _ _ _ dX6_isDigit_17 bn0 hP hD hS
    · have hf := if_f hf hc2
      refine lv_iconst (v := 1) hx hb dX6_isDigit_12 (by decide) ?_
      refine lv_goto (tgt := 17) hx hb dX6_isDigit_13 (by decide) ?_
      have he := Option.some.inj hf
      subst he
      exact hret _ _ _ _ dX6_isDigit_17 bn1 hP hD hS
abbrev rmX6_digits : Room := { frames := 1, cells := 0, slots := 0, locals := 21 }
theorem hiX6_digits_6 : ∀ w ∈ wsX60, w ∈ wsX6_digits := fun w h => (goodIn_r (big := wsX6_digits) wsX60 [13, 14, 15, 16, 17, 18, 19, 20, 21] rfl (by decide +kernel) w h).1
theorem cw_X6_digits_X6_isDigit_81 {s : State} {args : Array Value} (hts : ∀ x ∈ wsX6_digits, x.before args s = true) : CallB rmX6_digits s args RX6 81 yX6_isDigit cX6_isDigit 1 (some .boolean) wsX6_isDigit rmX6_isDigit 0 0 1 ∧ (Cond.static yX6_isDigit).before args s = true := va_cwS 1 hts gX6_digits_X6_isDigit rfl rfl rfl (by decide +kernel) ⟨Nat.le_of_ble_eq_true rfl, Nat.le_of_ble_eq_true rfl⟩
set_option maxRecDepth 100000 in
set_option maxHeartbeats 4000000 in
theorem c_X6_digits (l : Launch) (D : va_G) (cI cZ cR : ClassId) (a_text : Nat) (a_text_letters : Nat) (a_draft : Nat) (text_length : Int32) (text_leastTold : Int32) (text_shelfTold : Int32) (text_place : Int32) (text_token : Int32) (text_start : Int32) (text_number : Int32) (text_letters : Nat → Int32) (out : Int32 × Int32) (hf : f_X6_digits text_length text_place text_start text_letters = some out) : Ci l yX6_digits wsX6_digits rmX6_digits D cI cZ cR [.ref a_text] [(a_text, .inr (6, [.ref a_text_letters, .int text_length, .ref a_draft, .int text_leastTold, .int text_shelfTold, .int text_place, .int text_token, .int text_start, .int text_number])), (a_text_letters, .inl (cI, 200, .inl text_letters))] out.1 [(a_text, .inr (6, [.ref a_text_letters, .int text_length, .ref a_draft, .int text_leastTold, .int text_shelfTold, .int out.2, .int text_token, .int text_start, .int text_number])), (a_text_letters, .inl (cI, 200, .inl text_letters))] := by
  refine ent_i (cc := cX6_digits) (maxL := 3) .int (by decide) rfl (Nat.le_of_ble_eq_true rfl) ?_
  intro p e s m below meth c A Q hx hb hml hown hts hE hA hP hD hS hret ls hl
  have hown : s.vm.findClass RX6 = some m.cls := hown
  have hl : lv_has ls 3 [(0, .ref a_text)] := hl
  have fL9 := hts (.fieldLink RX6 9 "RainShelves$Text" "letters" "[I") (List.mem_of_getElem? (i := 3) rfl)
  have fL22 := hts (.fieldLink RX6 22 "RainShelves$Text" "length" "I") (List.mem_of_getElem? (i := 2) rfl)
  have fL36 := hts (.fieldLink RX6 36 "RainShelves$Text" "place" "I") (List.mem_of_getElem? (i := 1) rfl)
  have fL49 := hts (.fieldLink RX6 49 "RainShelves$Text" "start" "I") (List.mem_of_getElem? (i := 4) rfl)
  have mBmin := hts (.static Lib.Math.min.name) (List.mem_of_getElem? (i := 6) rfl)
  have mDmin := hts (.code Lib.Math.min.name Lib.Math.min.code 2 (some .int)) (List.mem_of_getElem? (i := 8) rfl)
  have mC := hts (.initialized "java/lang/Math") (List.mem_of_getElem? (i := 7) rfl)
  have mA89 := hts (.methodLink RX6 89 Lib.Math.min.name) (List.mem_of_getElem? (i := 5) rfl)
  unfold f_X6_digits at hf
  have L4 : ∀ (n4 : Nat) (v1_4 : Int32) (v2_4 : Int32) (text_place_4 : Int32), f_X6_digits_L4 text_length text_start text_letters n4 v1_4 v2_4 text_place_4 = some out → ∀ (H : Heap) (locs : List Loc) (ls : Array Slot), PD D A [(a_text, .inr (6, [.ref a_text_letters, .int text_length, .ref a_draft, .int text_leastTold, .int text_shelfTold, .int text_place_4, .int text_token, .int text_start, .int text_number])), (a_text_letters, .inl (cI, 200, .inl text_letters))] H → va_S A s.heap H locs → lv_has ls 3 [(0, .ref a_text), (1, .int v1_4), (2, .int v2_4)] → W p l e rmX6_digits s m ([.ref a_text] : List Value).toArray below meth c H locs 0 0 Q (F0 m 4 ls []) := by
    intro  n4
    induction n4 with
    | zero => intro v1_4 v2_4 text_place_4 hf; cases hf
    | succ n4 ih4 =>
      intro v1_4 v2_4 text_place_4 hf H locs ls hPD hS hl
      obtain ⟨hP, hD⟩ := hPD
      have hf : f_X6_digits_B4 text_length text_start text_letters (f_X6_digits_L4 text_length text_start text_letters n4) v1_4 v2_4 text_place_4 = some out := hf
      unfold f_X6_digits_B4 at hf
      have J54 : ∀ (s0_54 : Int32), f_X6_digits_J54 text_letters v1_4 text_place_4 (f_X6_digits_L4 text_length text_start text_letters n4) s0_54 = some out → ∀ (H : Heap) (locs : List Loc) (ls : Array Slot), PD D A [(a_text, .inr (6, [.ref a_text_letters, .int text_length, .ref a_draft, .int text_leastTold, .int text_shelfTold, .int text_place_4, .int text_token, .int text_start, .int text_number])), (a_text_letters, .inl (cI, 200, .inl text_letters))] H → va_S A s.heap H locs → lv_has ls 3 [(0, .ref a_text), (1, .int v1_4)] → W p l e rmX6_digits s m ([.ref a_text] : List Value).toArray below meth c H locs 0 0 Q (F0 m 54 ls [.int s0_54]) := by
        intro s0_54 hf H locs ls hPD hS hl
        obtain ⟨hP, hD⟩ := hPD
        unfold f_X6_digits_J54 at hf
        refine lv_istore_n (lv' := [(2, .int s0_54), (0, .ref a_text), (1, .int v1_4)]) hx hb dX6_digits_54 rfl hl (by decide) rfl (fun ls hl => ?_)
        refine lv_bipush (v := 100) hx hb dX6_digits_55 (by decide) ?_
        refine lv_iload_n hx hb dX6_digits_57 rfl (lv_at hl 2 rfl) ?_
        refine lv_bipush (v := 10) hx hb dX6_digits_58 (by decide) ?_
        refine lv_imul hx hb dX6_digits_60 ?_
        refine lv_aload_n hx hb dX6_digits_61 rfl (lv_at hl 1 rfl) ?_
        refine va_get (D := D) (ci := 6) (v := .ref a_text_letters) (C := RX6) (T := TX6) (N := 9) hx hb hts hiX6_digits_6 hown hE.1 hP 0 rfl rfl 0 (by decide) fL9 (fun _ h9 => h9) rfl dX6_digits_62 ?_
        refine lv_aload_n hx hb dX6_digits_65 rfl (lv_at hl 1 rfl) ?_
        refine va_get (D := D) (ci := 6) (v := .int text_place_4) (C := RX6) (T := TX6) (N := 9) hx hb hts hiX6_digits_6 hown hE.1 hP 0 rfl rfl 5 (by decide) fL36 (fun _ h9 => h9) rfl dX6_digits_66 ?_
        obtain ⟨hc1, hf⟩ := ck_some hf
        refine va_iald hx hb hE.1 hP 1 0 rfl rfl (ix_in hc1) dX6_digits_69 ?_
        refine lv_iadd hx hb dX6_digits_70 ?_
        refine lv_bipush (v := 48) hx hb dX6_digits_71 (by decide) ?_
        refine lv_isub hx hb dX6_digits_73 ?_
        refine va_mmin hx hb (hml.trans hl.1.symm) hown mA89 mBmin mC mDmin (Nat.le_of_ble_eq_true rfl) (Nat.le_of_ble_eq_true rfl) (Nat.zero_le _) (Nat.zero_le _) dX6_digits_74 ?_
        refine lv_istore_n (lv' := [(1, .int (if (((v1_4 * 10) + (text_letters text_place_4.toNatClampNeg)) - 48) < (100 : Int32) then (((v1_4 * 10) + (text_letters text_place_4.toNatClampNeg)) - 48) else (100 : Int32))), (2, .int s0_54), (0, .ref a_text)]) hx hb dX6_digits_77 rfl hl (by decide) rfl (fun ls hl => ?_)
        refine lv_aload_n hx hb dX6_digits_78 rfl (lv_at hl 2 rfl) ?_
        refine lv_dup hx hb dX6_digits_79 rfl ?_
        refine va_get (D := D) (ci := 6) (v := .int text_place_4) (C := RX6) (T := TX6) (N := 9) hx hb hts hiX6_digits_6 hown hE.1 hP 0 rfl rfl 5 (by decide) fL36 (fun _ h9 => h9) rfl dX6_digits_80 ?_
        refine lv_iconst (v := 1) hx hb dX6_digits_83 (by decide) ?_
        refine lv_iadd hx hb dX6_digits_84 ?_
        refine va_put (D := D) (ci := 6) (v := .int (text_place_4 + 1)) (ty := .int) (C := RX6) (T := TX6) (N := 9) hx hb hts hiX6_digits_6 tyX6 tyX6_ok nmX6 hown hE.1 hP hD hS 0 rfl rfl 5 (by decide) fL36 (fun _ h9 => h9) rfl (tyX6_ok 5 (by decide)) rfl rfl (Nat.le_of_ble_eq_true rfl) dX6_digits_85 (fun H locs hP hD hS => ?_)
        have hPD : PD D A [(a_text, .inr (6, [.ref a_text_letters, .int text_length, .ref a_draft, .int text_leastTold, .int text_shelfTold, .int (text_place_4 + 1), .int text_token, .int text_start, .int text_number])), (a_text_letters, .inl (cI, 200, .inl text_letters))] H := ⟨hP, hD⟩
        obtain ⟨hP, hD⟩ := hPD
        refine lv_goto (tgt := 4) hx hb dX6_digits_88 (by decide) ?_
        exact ih4 (if (((v1_4 * 10) + (text_letters text_place_4.toNatClampNeg)) - 48) < (100 : Int32) then (((v1_4 * 10) + (text_letters text_place_4.toNatClampNeg)) - 48) else (100 : Int32)) s0_54 (text_place_4 + 1) hf _ _ _ ⟨hP, hD⟩ hS (lv_sub hl [2, 0, 1] rfl)
      refine lv_aload_n hx hb dX6_digits_4 rfl (lv_at hl 0 rfl) ?_
      refine va_get (D := D) (ci := 6) (v := .int text_place_4) (C := RX6) (T := TX6) (N := 9) hx hb hts hiX6_digits_6 hown hE.1 hP 0 rfl rfl 5 (by decide) fL36 (fun _ h9 => h9) rfl dX6_digits_5 ?_
      refine lv_aload_n hx hb dX6_digits_8 rfl (lv_at hl 0 rfl) ?_
      refine va_get (D := D) (ci := 6) (v := .int text_length) (C := RX6) (T := TX6) (N := 9) hx hb hts hiX6_digits_6 hown hE.1 hP 0 rfl rfl 1 (by decide) fL22 (fun _ h9 => h9) rfl dX6_digits_9 ?_
      refine lv_icmp_ge (tgt := 91) hx hb dX6_digits_12 (by decide) (fun hc2 => ?_) (fun hc2 => ?_)
      · have hf := if_t hf hc2
        refine lv_iload_n hx hb dX6_digits_91 rfl (lv_at hl 2 rfl) ?_
        refine lv_if_eq (tgt := 100) hx hb dX6_digits_92 (by decide) (fun hc3 => ?_) (fun hc3 => ?_)
        · have hf := if_t hf hc3
          refine lv_iload_n hx hb dX6_digits_100 rfl (lv_at hl 1 rfl) ?_
          have he := Option.some.inj hf
          subst he
          exact hret _ _ _ _ dX6_digits_101 rfl hP hD hS
        · have hf := if_f hf hc3
          refine lv_bipush (v := 100) hx hb dX6_digits_95 (by decide) ?_
          refine lv_goto (tgt := 101) hx hb dX6_digits_97 (by decide) ?_
          have he := Option.some.inj hf
          subst he
          exact hret _ _ _ _ dX6_digits_101 rfl hP hD hS
      · have hf := if_f hf hc2
        refine lv_aload_n hx hb dX6_digits_15 rfl (lv_at hl 0 rfl) ?_
        refine va_get (D := D) (ci := 6) (v := .ref a_text_letters) (C := RX6) (T := TX6) (N := 9) hx hb hts hiX6_digits_6 hown hE.1 hP 0 rfl rfl 0 (by decide) fL9 (fun _ h9 => h9) rfl dX6_digits_16 ?_
        refine lv_aload_n hx hb dX6_digits_19 rfl (lv_at hl 0 rfl) ?_
        refine va_get (D := D) (ci := 6) (v := .int text_place_4) (C := RX6) (T := TX6) (N := 9) hx hb hts hiX6_digits_6 hown hE.1 hP 0 rfl rfl 5 (by decide) fL36 (fun _ h9 => h9) rfl dX6_digits_20 ?_
        obtain ⟨hc4, hf⟩ := ck_some hf
        refine va_iald hx hb hE.1 hP 1 0 rfl rfl (ix_in hc4) dX6_digits_23 ?_
        obtain ⟨u1, hu1, hf⟩ := bd_some hf
        refine cl_iS (As := [.int (text_letters text_place_4.toNatClampNeg)]) (rest := []) ⟨hx, hb, hml, hown, hts⟩ (c_X6_isDigit l D cI cZ cR   (text_letters text_place_4.toNatClampNeg) u1 hu1) (cw_X6_digits_X6_isDigit_81 hts) hE hP hD hS hA rfl hl.1 rfl (Nat.le_of_ble_eq_true rfl) dX6_digits_24 ⟨Nat.zero_le _, Nat.zero_le _⟩ (fun H locs hP hS => ?_)
        refine lv_if_eq (tgt := 91) hx hb dX6_digits_27 (by decide) (fun hc5 => ?_) (fun hc5 => ?_)
        · have hf := if_t hf hc5
          refine lv_iload_n hx hb dX6_digits_91 rfl (lv_at hl 2 rfl) ?_
          refine lv_if_eq (tgt := 100) hx hb dX6_digits_92 (by decide) (fun hc6 => ?_) (fun hc6 => ?_)
          · have hf := if_t hf hc6
            refine lv_iload_n hx hb dX6_digits_100 rfl (lv_at hl 1 rfl) ?_
            have he := Option.some.inj hf
            subst he
            exact hret _ _ _ _ dX6_digits_101 rfl hP hD hS
          · have hf := if_f hf hc6
            refine lv_bipush (v := 100) hx hb dX6_digits_95 (by decide) ?_
            refine lv_goto (tgt := 101) hx hb dX6_digits_97 (by decide) ?_
            have he := Option.some.inj hf
            subst he
            exact hret _ _ _ _ dX6_digits_101 rfl hP hD hS
        · have hf := if_f hf hc5
          refine lv_iload_n hx hb dX6_digits_30 rfl (lv_at hl 2 rfl) ?_
          refine lv_if_ne (tgt := 49) hx hb dX6_digits_31 (by decide) (fun hc7 => ?_) (fun hc7 => ?_)
          · have hf := if_f hf hc7
            refine lv_iconst (v := 1) hx hb dX6_digits_49 (by decide) ?_
            refine lv_goto (tgt := 54) hx hb dX6_digits_50 (by decide) ?_
            exact J54 1 hf _ _ _ ⟨hP, hD⟩ hS (lv_sub hl [0, 1] rfl)
          · have hf := if_t hf hc7
            refine lv_iload_n hx hb dX6_digits_34 rfl (lv_at hl 1 rfl) ?_
            refine lv_if_ne (tgt := 53) hx hb dX6_digits_35 (by decide) (fun hc8 => ?_) (fun hc8 => ?_)
            · have hf := if_f hf hc8
              refine lv_iconst (v := 0) hx hb dX6_digits_53 (by decide) ?_
              exact J54 0 hf _ _ _ ⟨hP, hD⟩ hS (lv_sub hl [0, 1] rfl)
            · have hf := if_t hf hc8
              refine lv_aload_n hx hb dX6_digits_38 rfl (lv_at hl 0 rfl) ?_
              refine va_get (D := D) (ci := 6) (v := .int text_place_4) (C := RX6) (T := TX6) (N := 9) hx hb hts hiX6_digits_6 hown hE.1 hP 0 rfl rfl 5 (by decide) fL36 (fun _ h9 => h9) rfl dX6_digits_39 ?_
              refine lv_aload_n hx hb dX6_digits_42 rfl (lv_at hl 0 rfl) ?_
              refine va_get (D := D) (ci := 6) (v := .int text_start) (C := RX6) (T := TX6) (N := 9) hx hb hts hiX6_digits_6 hown hE.1 hP 0 rfl rfl 7 (by decide) fL49 (fun _ h9 => h9) rfl dX6_digits_43 ?_
              refine lv_icmp_le (tgt := 53) hx hb dX6_digits_46 (by decide) (fun hc9 => ?_) (fun hc9 => ?_)
              · have hf := if_t hf hc9
                refine lv_iconst (v := 0) hx hb dX6_digits_53 (by decide) ?_
                exact J54 0 hf _ _ _ ⟨hP, hD⟩ hS (lv_sub hl [0, 1] rfl)
              · have hf := if_f hf hc9
                refine lv_iconst (v := 1) hx hb dX6_digits_49 (by decide) ?_
                refine lv_goto (tgt := 54) hx hb dX6_digits_50 (by decide) ?_
                exact J54 1 hf _ _ _ ⟨hP, hD⟩ hS (lv_sub hl [0, 1] rfl)
  refine lv_iconst (v := 0) hx hb dX6_digits_0 (by decide) ?_
  refine lv_istore_n (lv' := [(1, .int 0), (0, .ref a_text)]) hx hb dX6_digits_1 rfl hl (by decide) rfl (fun ls hl => ?_)
  refine lv_iconst (v := 0) hx hb dX6_digits_2 (by decide) ?_
  refine lv_istore_n (lv' := [(2, .int 0), (1, .int 0), (0, .ref a_text)]) hx hb dX6_digits_3 rfl hl (by decide) rfl (fun ls hl => ?_)
  exact L4  FU 0 0 text_place hf _ _ _ ⟨hP, hD⟩ hS (lv_sub hl [2, 1, 0] rfl)
abbrev rmX6_step : Room := { frames := 2, cells := 0, slots := 0, locals := 43 }
theorem hiX6_step_6 : ∀ w ∈ wsX60, w ∈ wsX6_step := fun w h => (goodIn_r (big := wsX6_step) wsX60 [19, 20, 21, 22, 23, 24, 25, 26, 27] rfl (by decide +kernel) w h).1
theorem cw_X6_step_X6_isDigit_81 {s : State} {args : Array Value} (hts : ∀ x ∈ wsX6_step, x.before args s = true) : CallB rmX6_step s args RX6 81 yX6_isDigit cX6_isDigit 1 (some .boolean) wsX6_isDigit rmX6_isDigit 0 0 1 ∧ (Cond.static yX6_isDigit).before args s = true := va_cwS 1 hts gX6_step_X6_isDigit rfl rfl rfl (by decide +kernel) ⟨Nat.le_of_ble_eq_true rfl, Nat.le_of_ble_eq_true rfl⟩
theorem cw_X6_step_X6_digits_85 {s : State} {args : Array Value} (hts : ∀ x ∈ wsX6_step, x.before args s = true) : CallW rmX6_step s args RX6 RX6 85 yX6_digits cX6_digits 3 (some .int) wsX6_digits rmX6_digits 0 0 0 := cwV 0 hts gX6_step_X6_digits rfl rfl rfl (by decide +kernel) ⟨Nat.le_of_ble_eq_true rfl, Nat.le_of_ble_eq_true rfl⟩
set_option maxRecDepth 100000 in
set_option maxHeartbeats 4000000 in
theorem c_X6_step (l : Launch) (D : va_G) (cI cZ cR : ClassId) (a_text : Nat) (a_text_letters : Nat) (a_draft : Nat) (text_length : Int32) (text_leastTold : Int32) (text_shelfTold : Int32) (text_place : Int32) (text_token : Int32) (text_start : Int32) (text_number : Int32) (text_letters : Nat → Int32) (out : Int32 × Int32 × Int32 × Int32) (hf : f_X6_step text_length text_place text_number text_letters = some out) : Cv l yX6_step wsX6_step rmX6_step D cI cZ cR [.ref a_text] [(a_text, .inr (6, [.ref a_text_letters, .int text_length, .ref a_draft, .int text_leastTold, .int text_shelfTold, .int text_place, .int text_token, .int text_start, .int text_number])), (a_text_letters, .inl (cI, 200, .inl text_letters))] [(a_text, .inr (6, [.ref a_text_letters, .int text_length, .ref a_draft, .int text_leastTold, .int text_shelfTold, .int out.1, .int out.2.1, .int out.2.2.1, .int out.2.2.2])), (a_text_letters, .inl (cI, 200, .inl text_letters))] := by
  refine ent_v (cc := cX6_step) (maxL := 1) (by decide) rfl (Nat.le_of_ble_eq_true rfl) ?_
  intro p e s m below meth c A Q hx hb hml hown hts hE hA hP hD hS hret ls hl
  have hown : s.vm.findClass RX6 = some m.cls := hown
  have hl : lv_has ls 1 [(0, .ref a_text)] := hl
  have fL9 := hts (.fieldLink RX6 9 "RainShelves$Text" "letters" "[I") (List.mem_of_getElem? (i := 3) rfl)
  have fL22 := hts (.fieldLink RX6 22 "RainShelves$Text" "length" "I") (List.mem_of_getElem? (i := 2) rfl)
  have fL36 := hts (.fieldLink RX6 36 "RainShelves$Text" "place" "I") (List.mem_of_getElem? (i := 1) rfl)
  have fL42 := hts (.fieldLink RX6 42 "RainShelves$Text" "token" "I") (List.mem_of_getElem? (i := 5) rfl)
  have fL49 := hts (.fieldLink RX6 49 "RainShelves$Text" "start" "I") (List.mem_of_getElem? (i := 4) rfl)
  have fL68 := hts (.fieldLink RX6 68 "RainShelves$Text" "number" "I") (List.mem_of_getElem? (i := 6) rfl)
  unfold f_X6_step at hf
  have J38 : ∀ (text_place_38 : Int32), f_X6_step_J38 text_length text_number text_letters text_place_38 = some out → ∀ (H : Heap) (locs : List Loc) (ls : Array Slot), PD D A [(a_text, .inr (6, [.ref a_text_letters, .int text_length, .ref a_draft, .int text_leastTold, .int text_shelfTold, .int text_place_38, .int text_token, .int text_start, .int text_number])), (a_text_letters, .inl (cI, 200, .inl text_letters))] H → va_S A s.heap H locs → lv_has ls 1 [(0, .ref a_text)] → W p l e rmX6_step s m ([.ref a_text] : List Value).toArray below meth c H locs 0 0 Q (F0 m 38 ls []) := by
    intro text_place_38 hf H locs ls hPD hS hl
    obtain ⟨hP, hD⟩ := hPD
    unfold f_X6_step_J38 at hf
    refine lv_aload_n hx hb dX6_step_38 rfl (lv_at hl 0 rfl) ?_
    refine lv_aload_n hx hb dX6_step_39 rfl (lv_at hl 0 rfl) ?_
    refine va_get (D := D) (ci := 6) (v := .int text_place_38) (C := RX6) (T := TX6) (N := 9) hx hb hts hiX6_step_6 hown hE.1 hP 0 rfl rfl 5 (by decide) fL36 (fun _ h9 => h9) rfl dX6_step_40 ?_
    refine va_put (D := D) (ci := 6) (v := .int text_place_38) (ty := .int) (C := RX6) (T := TX6) (N := 9) hx hb hts hiX6_step_6 tyX6 tyX6_ok nmX6 hown hE.1 hP hD hS 0 rfl rfl 7 (by decide) fL49 (fun _ h9 => h9) rfl (tyX6_ok 7 (by decide)) rfl rfl (Nat.le_of_ble_eq_true rfl) dX6_step_43 (fun H locs hP hD hS => ?_)
    have hPD : PD D A [(a_text, .inr (6, [.ref a_text_letters, .int text_length, .ref a_draft, .int text_leastTold, .int text_shelfTold, .int text_place_38, .int text_token, .int text_place_38, .int text_number])), (a_text_letters, .inl (cI, 200, .inl text_letters))] H := ⟨hP, hD⟩
    obtain ⟨hP, hD⟩ := hPD
    refine lv_aload_n hx hb dX6_step_46 rfl (lv_at hl 0 rfl) ?_
    refine va_get (D := D) (ci := 6) (v := .int text_place_38) (C := RX6) (T := TX6) (N := 9) hx hb hts hiX6_step_6 hown hE.1 hP 0 rfl rfl 5 (by decide) fL36 (fun _ h9 => h9) rfl dX6_step_47 ?_
    refine lv_aload_n hx hb dX6_step_50 rfl (lv_at hl 0 rfl) ?_
    refine va_get (D := D) (ci := 6) (v := .int text_length) (C := RX6) (T := TX6) (N := 9) hx hb hts hiX6_step_6 hown hE.1 hP 0 rfl rfl 1 (by decide) fL22 (fun _ h9 => h9) rfl dX6_step_51 ?_
    refine lv_icmp_lt (tgt := 67) hx hb dX6_step_54 (by decide) (fun hc1 => ?_) (fun hc1 => ?_)
    · have hf := if_t hf hc1
      refine lv_aload_n hx hb dX6_step_67 rfl (lv_at hl 0 rfl) ?_
      refine va_get (D := D) (ci := 6) (v := .ref a_text_letters) (C := RX6) (T := TX6) (N := 9) hx hb hts hiX6_step_6 hown hE.1 hP 0 rfl rfl 0 (by decide) fL9 (fun _ h9 => h9) rfl dX6_step_68 ?_
      refine lv_aload_n hx hb dX6_step_71 rfl (lv_at hl 0 rfl) ?_
      refine va_get (D := D) (ci := 6) (v := .int text_place_38) (C := RX6) (T := TX6) (N := 9) hx hb hts hiX6_step_6 hown hE.1 hP 0 rfl rfl 5 (by decide) fL36 (fun _ h9 => h9) rfl dX6_step_72 ?_
      obtain ⟨hc2, hf⟩ := ck_some hf
      refine va_iald hx hb hE.1 hP 1 0 rfl rfl (ix_in hc2) dX6_step_75 ?_
      obtain ⟨u1, hu1, hf⟩ := bd_some hf
      refine cl_iS (As := [.int (text_letters text_place_38.toNatClampNeg)]) (rest := []) ⟨hx, hb, hml, hown, hts⟩ (c_X6_isDigit l D cI cZ cR   (text_letters text_place_38.toNatClampNeg) u1 hu1) (cw_X6_step_X6_isDigit_81 hts) hE hP hD hS hA rfl hl.1 rfl (Nat.le_of_ble_eq_true rfl) dX6_step_76 ⟨Nat.zero_le _, Nat.zero_le _⟩ (fun H locs hP hS => ?_)
      refine lv_if_eq (tgt := 100) hx hb dX6_step_79 (by decide) (fun hc3 => ?_) (fun hc3 => ?_)
      · have hf := if_t hf hc3
        refine lv_aload_n hx hb dX6_step_100 rfl (lv_at hl 0 rfl) ?_
        refine lv_aload_n hx hb dX6_step_101 rfl (lv_at hl 0 rfl) ?_
        refine va_get (D := D) (ci := 6) (v := .ref a_text_letters) (C := RX6) (T := TX6) (N := 9) hx hb hts hiX6_step_6 hown hE.1 hP 0 rfl rfl 0 (by decide) fL9 (fun _ h9 => h9) rfl dX6_step_102 ?_
        refine lv_aload_n hx hb dX6_step_105 rfl (lv_at hl 0 rfl) ?_
        refine va_get (D := D) (ci := 6) (v := .int text_place_38) (C := RX6) (T := TX6) (N := 9) hx hb hts hiX6_step_6 hown hE.1 hP 0 rfl rfl 5 (by decide) fL36 (fun _ h9 => h9) rfl dX6_step_106 ?_
        obtain ⟨hc4, hf⟩ := ck_some hf
        refine va_iald hx hb hE.1 hP 1 0 rfl rfl (ix_in hc4) dX6_step_109 ?_
        refine va_put (D := D) (ci := 6) (v := .int (text_letters text_place_38.toNatClampNeg)) (ty := .int) (C := RX6) (T := TX6) (N := 9) hx hb hts hiX6_step_6 tyX6 tyX6_ok nmX6 hown hE.1 hP hD hS 0 rfl rfl 6 (by decide) fL42 (fun _ h9 => h9) rfl (tyX6_ok 6 (by decide)) rfl rfl (Nat.le_of_ble_eq_true rfl) dX6_step_110 (fun H locs hP hD hS => ?_)
        have hPD : PD D A [(a_text, .inr (6, [.ref a_text_letters, .int text_length, .ref a_draft, .int text_leastTold, .int text_shelfTold, .int text_place_38, .int (text_letters text_place_38.toNatClampNeg), .int text_place_38, .int text_number])), (a_text_letters, .inl (cI, 200, .inl text_letters))] H := ⟨hP, hD⟩
        obtain ⟨hP, hD⟩ := hPD
        refine lv_aload_n hx hb dX6_step_113 rfl (lv_at hl 0 rfl) ?_
        refine lv_dup hx hb dX6_step_114 rfl ?_
        refine va_get (D := D) (ci := 6) (v := .int text_place_38) (C := RX6) (T := TX6) (N := 9) hx hb hts hiX6_step_6 hown hE.1 hP 0 rfl rfl 5 (by decide) fL36 (fun _ h9 => h9) rfl dX6_step_115 ?_
        refine lv_iconst (v := 1) hx hb dX6_step_118 (by decide) ?_
        refine lv_iadd hx hb dX6_step_119 ?_
        refine va_put (D := D) (ci := 6) (v := .int (text_place_38 + 1)) (ty := .int) (C := RX6) (T := TX6) (N := 9) hx hb hts hiX6_step_6 tyX6 tyX6_ok nmX6 hown hE.1 hP hD hS 0 rfl rfl 5 (by decide) fL36 (fun _ h9 => h9) rfl (tyX6_ok 5 (by decide)) rfl rfl (Nat.le_of_ble_eq_true rfl) dX6_step_120 (fun H locs hP hD hS => ?_)
        have hPD : PD D A [(a_text, .inr (6, [.ref a_text_letters, .int text_length, .ref a_draft, .int text_leastTold, .int text_shelfTold, .int (text_place_38 + 1), .int (text_letters text_place_38.toNatClampNeg), .int text_place_38, .int text_number])), (a_text_letters, .inl (cI, 200, .inl text_letters))] H := ⟨hP, hD⟩
        obtain ⟨hP, hD⟩ := hPD
        have he := Option.some.inj hf
        subst he
        exact hret _ _ _ _ dX6_step_123 hP hD hS
      · have hf := if_f hf hc3
        refine lv_aload_n hx hb dX6_step_82 rfl (lv_at hl 0 rfl) ?_
        refine lv_sipush (v := 256) hx hb dX6_step_83 (by decide) ?_
        refine va_put (D := D) (ci := 6) (v := .int 256) (ty := .int) (C := RX6) (T := TX6) (N := 9) hx hb hts hiX6_step_6 tyX6 tyX6_ok nmX6 hown hE.1 hP hD hS 0 rfl rfl 6 (by decide) fL42 (fun _ h9 => h9) rfl (tyX6_ok 6 (by decide)) rfl rfl (Nat.le_of_ble_eq_true rfl) dX6_step_86 (fun H locs hP hD hS => ?_)
        have hPD : PD D A [(a_text, .inr (6, [.ref a_text_letters, .int text_length, .ref a_draft, .int text_leastTold, .int text_shelfTold, .int text_place_38, .int 256, .int text_place_38, .int text_number])), (a_text_letters, .inl (cI, 200, .inl text_letters))] H := ⟨hP, hD⟩
        obtain ⟨hP, hD⟩ := hPD
        refine lv_aload_n hx hb dX6_step_89 rfl (lv_at hl 0 rfl) ?_
        refine lv_aload_n hx hb dX6_step_90 rfl (lv_at hl 0 rfl) ?_
        obtain ⟨u2, hu2, hf⟩ := bd_some hf
        refine cl_iV (As := []) (rest := [.ref a_text]) ⟨hx, hb, hml, hown, hts⟩ (c_X6_digits l D cI cZ cR a_text a_text_letters a_draft text_length text_leastTold text_shelfTold text_place_38 256 text_place_38 text_number text_letters  u2 hu2) (cw_X6_step_X6_digits_85 hts) hE hP hD hS hA [0, 1] rfl rfl [a_text, a_text_letters] rfl rfl 0 6 rfl rfl rfl hl.1 rfl (Nat.le_of_ble_eq_true rfl) dX6_step_91 ⟨Nat.zero_le _, Nat.zero_le _⟩ (fun H locs hP hD hS => ?_)
        have hPD : PD D A [(a_text, .inr (6, [.ref a_text_letters, .int text_length, .ref a_draft, .int text_leastTold, .int text_shelfTold, .int u2.2, .int 256, .int text_place_38, .int text_number])), (a_text_letters, .inl (cI, 200, .inl text_letters))] H := ⟨hP, hD⟩
        obtain ⟨hP, hD⟩ := hPD
        refine va_put (D := D) (ci := 6) (v := .int u2.1) (ty := .int) (C := RX6) (T := TX6) (N := 9) hx hb hts hiX6_step_6 tyX6 tyX6_ok nmX6 hown hE.1 hP hD hS 0 rfl rfl 8 (by decide) fL68 (fun _ h9 => h9) rfl (tyX6_ok 8 (by decide)) rfl rfl (Nat.le_of_ble_eq_true rfl) dX6_step_94 (fun H locs hP hD hS => ?_)
        have hPD : PD D A [(a_text, .inr (6, [.ref a_text_letters, .int text_length, .ref a_draft, .int text_leastTold, .int text_shelfTold, .int u2.2, .int 256, .int text_place_38, .int u2.1])), (a_text_letters, .inl (cI, 200, .inl text_letters))] H := ⟨hP, hD⟩
        obtain ⟨hP, hD⟩ := hPD
        refine lv_goto (tgt := 123) hx hb dX6_step_97 (by decide) ?_
        have he := Option.some.inj hf
        subst he
        exact hret _ _ _ _ dX6_step_123 hP hD hS
    · have hf := if_f hf hc1
      refine lv_aload_n hx hb dX6_step_57 rfl (lv_at hl 0 rfl) ?_
      refine lv_sipush (v := 257) hx hb dX6_step_58 (by decide) ?_
      refine va_put (D := D) (ci := 6) (v := .int 257) (ty := .int) (C := RX6) (T := TX6) (N := 9) hx hb hts hiX6_step_6 tyX6 tyX6_ok nmX6 hown hE.1 hP hD hS 0 rfl rfl 6 (by decide) fL42 (fun _ h9 => h9) rfl (tyX6_ok 6 (by decide)) rfl rfl (Nat.le_of_ble_eq_true rfl) dX6_step_61 (fun H locs hP hD hS => ?_)
      have hPD : PD D A [(a_text, .inr (6, [.ref a_text_letters, .int text_length, .ref a_draft, .int text_leastTold, .int text_shelfTold, .int text_place_38, .int 257, .int text_place_38, .int text_number])), (a_text_letters, .inl (cI, 200, .inl text_letters))] H := ⟨hP, hD⟩
      obtain ⟨hP, hD⟩ := hPD
      refine lv_goto (tgt := 123) hx hb dX6_step_64 (by decide) ?_
      have he := Option.some.inj hf
      subst he
      exact hret _ _ _ _ dX6_step_123 hP hD hS
  have L0 : ∀ (n0 : Nat) (text_place_0 : Int32), f_X6_step_L0 text_length text_number text_letters n0 text_place_0 = some out → ∀ (H : Heap) (locs : List Loc) (ls : Array Slot), PD D A [(a_text, .inr (6, [.ref a_text_letters, .int text_length, .ref a_draft, .int text_leastTold, .int text_shelfTold, .int text_place_0, .int text_token, .int text_start, .int text_number])), (a_text_letters, .inl (cI, 200, .inl text_letters))] H → va_S A s.heap H locs → lv_has ls 1 [(0, .ref a_text)] → W p l e rmX6_step s m ([.ref a_text] : List Value).toArray below meth c H locs 0 0 Q (F0 m 0 ls []) := by
    intro  n0
    induction n0 with
    | zero => intro text_place_0 hf; cases hf
    | succ n0 ih0 =>
      intro text_place_0 hf H locs ls hPD hS hl
      obtain ⟨hP, hD⟩ := hPD
      have hf : f_X6_step_B0 text_length text_number text_letters (f_X6_step_L0 text_length text_number text_letters n0) text_place_0 = some out := hf
      unfold f_X6_step_B0 at hf
      refine lv_aload_n hx hb dX6_step_0 rfl (lv_at hl 0 rfl) ?_
      refine va_get (D := D) (ci := 6) (v := .int text_place_0) (C := RX6) (T := TX6) (N := 9) hx hb hts hiX6_step_6 hown hE.1 hP 0 rfl rfl 5 (by decide) fL36 (fun _ h9 => h9) rfl dX6_step_1 ?_
      refine lv_aload_n hx hb dX6_step_4 rfl (lv_at hl 0 rfl) ?_
      refine va_get (D := D) (ci := 6) (v := .int text_length) (C := RX6) (T := TX6) (N := 9) hx hb hts hiX6_step_6 hown hE.1 hP 0 rfl rfl 1 (by decide) fL22 (fun _ h9 => h9) rfl dX6_step_5 ?_
      refine lv_icmp_ge (tgt := 38) hx hb dX6_step_8 (by decide) (fun hc5 => ?_) (fun hc5 => ?_)
      · have hf := if_t hf hc5
        exact J38 text_place_0 hf _ _ _ ⟨hP, hD⟩ hS hl
      · have hf := if_f hf hc5
        refine lv_aload_n hx hb dX6_step_11 rfl (lv_at hl 0 rfl) ?_
        refine va_get (D := D) (ci := 6) (v := .ref a_text_letters) (C := RX6) (T := TX6) (N := 9) hx hb hts hiX6_step_6 hown hE.1 hP 0 rfl rfl 0 (by decide) fL9 (fun _ h9 => h9) rfl dX6_step_12 ?_
        refine lv_aload_n hx hb dX6_step_15 rfl (lv_at hl 0 rfl) ?_
        refine va_get (D := D) (ci := 6) (v := .int text_place_0) (C := RX6) (T := TX6) (N := 9) hx hb hts hiX6_step_6 hown hE.1 hP 0 rfl rfl 5 (by decide) fL36 (fun _ h9 => h9) rfl dX6_step_16 ?_
        obtain ⟨hc6, hf⟩ := ck_some hf
        refine va_iald hx hb hE.1 hP 1 0 rfl rfl (ix_in hc6) dX6_step_19 ?_
        refine lv_bipush (v := 32) hx hb dX6_step_20 (by decide) ?_
        refine lv_icmp_ne (tgt := 38) hx hb dX6_step_22 (by decide) (fun hc7 => ?_) (fun hc7 => ?_)
        · have hf := if_f hf hc7
          exact J38 text_place_0 hf _ _ _ ⟨hP, hD⟩ hS hl
        · have hf := if_t hf hc7
          refine lv_aload_n hx hb dX6_step_25 rfl (lv_at hl 0 rfl) ?_
          refine lv_dup hx hb dX6_step_26 rfl ?_
          refine va_get (D := D) (ci := 6) (v := .int text_place_0) (C := RX6) (T := TX6) (N := 9) hx hb hts hiX6_step_6 hown hE.1 hP 0 rfl rfl 5 (by decide) fL36 (fun _ h9 => h9) rfl dX6_step_27 ?_
          refine lv_iconst (v := 1) hx hb dX6_step_30 (by decide) ?_
          refine lv_iadd hx hb dX6_step_31 ?_
          refine va_put (D := D) (ci := 6) (v := .int (text_place_0 + 1)) (ty := .int) (C := RX6) (T := TX6) (N := 9) hx hb hts hiX6_step_6 tyX6 tyX6_ok nmX6 hown hE.1 hP hD hS 0 rfl rfl 5 (by decide) fL36 (fun _ h9 => h9) rfl (tyX6_ok 5 (by decide)) rfl rfl (Nat.le_of_ble_eq_true rfl) dX6_step_32 (fun H locs hP hD hS => ?_)
          have hPD : PD D A [(a_text, .inr (6, [.ref a_text_letters, .int text_length, .ref a_draft, .int text_leastTold, .int text_shelfTold, .int (text_place_0 + 1), .int text_token, .int text_start, .int text_number])), (a_text_letters, .inl (cI, 200, .inl text_letters))] H := ⟨hP, hD⟩
          obtain ⟨hP, hD⟩ := hPD
          refine lv_goto (tgt := 0) hx hb dX6_step_35 (by decide) ?_
          exact ih0 (text_place_0 + 1) hf _ _ _ ⟨hP, hD⟩ hS hl
  refine lv_aload_n hx hb dX6_step_0 rfl (lv_at hl 0 rfl) ?_
  refine va_get (D := D) (ci := 6) (v := .int text_place) (C := RX6) (T := TX6) (N := 9) hx hb hts hiX6_step_6 hown hE.1 hP 0 rfl rfl 5 (by decide) fL36 (fun _ h9 => h9) rfl dX6_step_1 ?_
  refine lv_aload_n hx hb dX6_step_4 rfl (lv_at hl 0 rfl) ?_
  refine va_get (D := D) (ci := 6) (v := .int text_length) (C := RX6) (T := TX6) (N := 9) hx hb hts hiX6_step_6 hown hE.1 hP 0 rfl rfl 1 (by decide) fL22 (fun _ h9 => h9) rfl dX6_step_5 ?_
  refine lv_icmp_ge (tgt := 38) hx hb dX6_step_8 (by decide) (fun hc8 => ?_) (fun hc8 => ?_)
  · have hf := if_t hf hc8
    exact J38 text_place hf _ _ _ ⟨hP, hD⟩ hS hl
  · have hf := if_f hf hc8
    refine lv_aload_n hx hb dX6_step_11 rfl (lv_at hl 0 rfl) ?_
    refine va_get (D := D) (ci := 6) (v := .ref a_text_letters) (C := RX6) (T := TX6) (N := 9) hx hb hts hiX6_step_6 hown hE.1 hP 0 rfl rfl 0 (by decide) fL9 (fun _ h9 => h9) rfl dX6_step_12 ?_
    refine lv_aload_n hx hb dX6_step_15 rfl (lv_at hl 0 rfl) ?_
    refine va_get (D := D) (ci := 6) (v := .int text_place) (C := RX6) (T := TX6) (N := 9) hx hb hts hiX6_step_6 hown hE.1 hP 0 rfl rfl 5 (by decide) fL36 (fun _ h9 => h9) rfl dX6_step_16 ?_
    obtain ⟨hc9, hf⟩ := ck_some hf
    refine va_iald hx hb hE.1 hP 1 0 rfl rfl (ix_in hc9) dX6_step_19 ?_
    refine lv_bipush (v := 32) hx hb dX6_step_20 (by decide) ?_
    refine lv_icmp_ne (tgt := 38) hx hb dX6_step_22 (by decide) (fun hc10 => ?_) (fun hc10 => ?_)
    · have hf := if_f hf hc10
      exact J38 text_place hf _ _ _ ⟨hP, hD⟩ hS hl
    · have hf := if_t hf hc10
      refine lv_aload_n hx hb dX6_step_25 rfl (lv_at hl 0 rfl) ?_
      refine lv_dup hx hb dX6_step_26 rfl ?_
      refine va_get (D := D) (ci := 6) (v := .int text_place) (C := RX6) (T := TX6) (N := 9) hx hb hts hiX6_step_6 hown hE.1 hP 0 rfl rfl 5 (by decide) fL36 (fun _ h9 => h9) rfl dX6_step_27 ?_
      refine lv_iconst (v := 1) hx hb dX6_step_30 (by decide) ?_
      refine lv_iadd hx hb dX6_step_31 ?_
      refine va_put (D := D) (ci := 6) (v := .int (text_place + 1)) (ty := .int) (C := RX6) (T := TX6) (N := 9) hx hb hts hiX6_step_6 tyX6 tyX6_ok nmX6 hown hE.1 hP hD hS 0 rfl rfl 5 (by decide) fL36 (fun _ h9 => h9) rfl (tyX6_ok 5 (by decide)) rfl rfl (Nat.le_of_ble_eq_true rfl) dX6_step_32 (fun H locs hP hD hS => ?_)
      have hPD : PD D A [(a_text, .inr (6, [.ref a_text_letters, .int text_length, .ref a_draft, .int text_leastTold, .int text_shelfTold, .int (text_place + 1), .int text_token, .int text_start, .int text_number])), (a_text_letters, .inl (cI, 200, .inl text_letters))] H := ⟨hP, hD⟩
      obtain ⟨hP, hD⟩ := hPD
      refine lv_goto (tgt := 0) hx hb dX6_step_35 (by decide) ?_
      exact L0  FU (text_place + 1) hf _ _ _ ⟨hP, hD⟩ hS hl
abbrev rmX6_readNumber : Room := { frames := 3, cells := 0, slots := 0, locals := 63 }
theorem hiX6_readNumber_6 : ∀ w ∈ wsX60, w ∈ wsX6_readNumber := fun w h => (goodIn_r (big := wsX6_readNumber) wsX60 [23, 24, 25, 26, 27, 28, 29, 30, 31] rfl (by decide +kernel) w h).1
theorem cw_X6_readNumber_X6_step_39 {s : State} {args : Array Value} (hts : ∀ x ∈ wsX6_readNumber, x.before args s = true) : CallW rmX6_readNumber s args RX6 RX6 39 yX6_step cX6_step 1 none wsX6_step rmX6_step 0 0 0 := cwV 0 hts gX6_readNumber_X6_step rfl rfl rfl (by decide +kernel) ⟨Nat.le_of_ble_eq_true rfl, Nat.le_of_ble_eq_true rfl⟩
set_option maxRecDepth 100000 in
set_option maxHeartbeats 4000000 in
theorem c_X6_readNumber (l : Launch) (D : va_G) (cI cZ cR : ClassId) (a_text : Nat) (a_text_letters : Nat) (a_draft : Nat) (text_length : Int32) (text_leastTold : Int32) (text_shelfTold : Int32) (text_place : Int32) (text_token : Int32) (text_start : Int32) (text_number : Int32) (text_letters : Nat → Int32) (v1 : Int32) (v2 : Int32) (out : Int32 × Int32 × Int32 × Int32 × Int32) (hf : f_X6_readNumber text_length text_place text_number text_letters v1 v2 = some out) : Ci l yX6_readNumber wsX6_readNumber rmX6_readNumber D cI cZ cR [.ref a_text, .int v1, .int v2] [(a_text, .inr (6, [.ref a_text_letters, .int text_length, .ref a_draft, .int text_leastTold, .int text_shelfTold, .int text_place, .int text_token, .int text_start, .int text_number])), (a_text_letters, .inl (cI, 200, .inl text_letters))] out.1 [(a_text, .inr (6, [.ref a_text_letters, .int text_length, .ref a_draft, .int text_leastTold, .int text_shelfTold, .int out.2.1, .int out.2.2.1, .int out.2.2.2.1, .int out.2.2.2.2])), (a_text_letters, .inl (cI, 200, .inl text_letters))] := by
  refine ent_i (cc := cX6_readNumber) (maxL := 3) .boolean (by decide) rfl (Nat.le_of_ble_eq_true rfl) ?_
  intro p e s m below meth c A Q hx hb hml hown hts hE hA hP hD hS hret ls hl
  have hown : s.vm.findClass RX6 = some m.cls := hown
  have hl : lv_has ls 3 [(0, .ref a_text), (1, .int v1), (2, .int v2)] := hl
  have fL42 := hts (.fieldLink RX6 42 "RainShelves$Text" "token" "I") (List.mem_of_getElem? (i := 1) rfl)
  have fL68 := hts (.fieldLink RX6 68 "RainShelves$Text" "number" "I") (List.mem_of_getElem? (i := 2) rfl)
  unfold f_X6_readNumber at hf
  refine lv_aload_n hx hb dX6_readNumber_0 rfl (lv_at hl 0 rfl) ?_
  obtain ⟨u1, hu1, hf⟩ := bd_some hf
  refine cl_vV (As := []) (rest := []) ⟨hx, hb, hml, hown, hts⟩ (c_X6_step l D cI cZ cR a_text a_text_letters a_draft text_length text_leastTold text_shelfTold text_place text_token text_start text_number text_letters  u1 hu1) (cw_X6_readNumber_X6_step_39 hts) hE hP hD hS hA [0, 1] rfl rfl [a_text, a_text_letters] rfl rfl 0 6 rfl rfl rfl hl.1 rfl (Nat.le_of_ble_eq_true rfl) dX6_readNumber_1 ⟨Nat.zero_le _, Nat.zero_le _⟩ (fun H locs hP hD hS => ?_)
  have hPD : PD D A [(a_text, .inr (6, [.ref a_text_letters, .int text_length, .ref a_draft, .int text_leastTold, .int text_shelfTold, .int u1.1, .int u1.2.1, .int u1.2.2.1, .int u1.2.2.2])), (a_text_letters, .inl (cI, 200, .inl text_letters))] H := ⟨hP, hD⟩
  obtain ⟨hP, hD⟩ := hPD
  refine lv_aload_n hx hb dX6_readNumber_4 rfl (lv_at hl 0 rfl) ?_
  refine va_get (D := D) (ci := 6) (v := .int u1.2.1) (C := RX6) (T := TX6) (N := 9) hx hb hts hiX6_readNumber_6 hown hE.1 hP 0 rfl rfl 6 (by decide) fL42 (fun _ h9 => h9) rfl dX6_readNumber_5 ?_
  refine lv_sipush (v := 256) hx hb dX6_readNumber_8 (by decide) ?_
  refine lv_icmp_ne (tgt := 34) hx hb dX6_readNumber_11 (by decide) (fun hc1 => ?_) (fun hc1 => ?_)
  · have hf := if_f hf hc1
    refine lv_iconst (v := 0) hx hb dX6_readNumber_34 (by decide) ?_
    have he := Option.some.inj hf
    subst he
    exact hret _ _ _ _ dX6_readNumber_35 bn0 hP hD hS
  · have hf := if_t hf hc1
    refine lv_aload_n hx hb dX6_readNumber_14 rfl (lv_at hl 0 rfl) ?_
    refine va_get (D := D) (ci := 6) (v := .int u1.2.2.2) (C := RX6) (T := TX6) (N := 9) hx hb hts hiX6_readNumber_6 hown hE.1 hP 0 rfl rfl 8 (by decide) fL68 (fun _ h9 => h9) rfl dX6_readNumber_15 ?_
    refine lv_iload_n hx hb dX6_readNumber_18 rfl (lv_at hl 1 rfl) ?_
    refine lv_icmp_lt (tgt := 34) hx hb dX6_readNumber_19 (by decide) (fun hc2 => ?_) (fun hc2 => ?_)
    · have hf := if_t hf hc2
      refine lv_iconst (v := 0) hx hb dX6_readNumber_34 (by decide) ?_
      have he := Option.some.inj hf
      subst he
      exact hret _ _ _ _ dX6_readNumber_35 bn0 hP hD hS
    · have hf := if_f hf hc2
      refine lv_aload_n hx hb dX6_readNumber_22 rfl (lv_at hl 0 rfl) ?_
      refine va_get (D := D) (ci := 6) (v := .int u1.2.2.2) (C := RX6) (T := TX6) (N := 9) hx hb hts hiX6_readNumber_6 hown hE.1 hP 0 rfl rfl 8 (by decide) fL68 (fun _ h9 => h9) rfl dX6_readNumber_23 ?_
      refine lv_iload_n hx hb dX6_readNumber_26 rfl (lv_at hl 2 rfl) ?_
      refine lv_icmp_gt (tgt := 34) hx hb dX6_readNumber_27 (by decide) (fun hc3 => ?_) (fun hc3 => ?_)
      · have hf := if_t hf hc3
        refine lv_iconst (v := 0) hx hb dX6_readNumber_34 (by decide) ?_
        have he := Option.some.inj hf
        subst he
        exact hret _ _ _ _ dX6_readNumber_35 bn0 hP hD hS
      · have hf := if_f hf hc3
        refine lv_iconst (v := 1) hx hb dX6_readNumber_30 (by decide) ?_
        refine lv_goto (tgt := 35) hx hb dX6_readNumber_31 (by decide) ?_
        have he := Option.some.inj hf
        subst he
        exact hret _ _ _ _ dX6_readNumber_35 bn1 hP hD hS
abbrev rmX6_readPan : Room := { frames := 4, cells := 0, slots := 0, locals := 85 }
theorem hiX6_readPan_2 : ∀ w ∈ wsX20, w ∈ wsX6_readPan := fun w h => (goodIn_r (big := wsX6_readPan) wsX20 [47, 48, 49, 50, 51, 52, 53, 54] rfl (by decide +kernel) w h).1
theorem hiX6_readPan_6 : ∀ w ∈ wsX60, w ∈ wsX6_readPan := fun w h => (goodIn_r (big := wsX6_readPan) wsX60 [38, 39, 40, 41, 42, 43, 44, 45, 46] rfl (by decide +kernel) w h).1
theorem cw_X6_readPan_X6_readNumber_64 {s : State} {args : Array Value} (hts : ∀ x ∈ wsX6_readPan, x.before args s = true) : CallW rmX6_readPan s args RX6 RX6 64 yX6_readNumber cX6_readNumber 3 (some .boolean) wsX6_readNumber rmX6_readNumber 0 0 2 := cwV 2 hts gX6_readPan_X6_readNumber rfl rfl rfl (by decide +kernel) ⟨Nat.le_of_ble_eq_true rfl, Nat.le_of_ble_eq_true rfl⟩
theorem cw_X6_readPan_X2_append_71 {s : State} {args : Array Value} {D : va_G} {cI cZ cR : ClassId} (hE : EV D cI cZ cR s) (hts : ∀ x ∈ wsX6_readPan, x.before args s = true) : va_CN rmX6_readPan s args RX6 71 yX2_append "RainShelves" cX2_append 6 (some .boolean) wsX2_append rmX2_append 0 0 4 ∧ (Cond.instanceMethod yX2_append).before args s = true ∧ (Cond.selects RX2 yX2_append yX2_append).before args s = true := ⟨va_cnB 4 hts gX6_readPan_X2_append_n71 rfl rfl rfl (hE.nm 12 rfl) (hts (.initialized RX2) (List.mem_of_getElem? (i := 29) rfl)) (by decide +kernel) ⟨Nat.le_of_ble_eq_true rfl, Nat.le_of_ble_eq_true rfl⟩, hts (.instanceMethod yX2_append) (List.mem_of_getElem? (i := 28) rfl), hts (.selects RX2 yX2_append yX2_append) (List.mem_of_getElem? (i := 30) rfl)⟩
set_option maxRecDepth 100000 in
set_option maxHeartbeats 4000000 in
theorem c_X6_readPan (l : Launch) (D : va_G) (cI cZ cR : ClassId) (a_text : Nat) (a_draft : Nat) (a_text_letters : Nat) (a_draft_years : Nat) (a_draft_spoons : Nat) (a_draft_shrinks : Nat) (a_draft_sorts : Nat) (a_draft_byAge : Nat) (text_length : Int32) (text_leastTold : Int32) (text_shelfTold : Int32) (text_place : Int32) (text_token : Int32) (text_start : Int32) (text_number : Int32) (draft_pans : Int32) (draft_least : Int32) (draft_shelf : Int32) (text_letters : Nat → Int32) (draft_years : Nat → Int32) (draft_spoons : Nat → Int32) (draft_shrinks : Nat → Int32) (draft_sorts : Nat → Int32) (draft_byAge : Nat → Int32) (out : Int32 × Int32 × Int32 × Int32 × Int32 × Int32 × (Nat → Int32) × (Nat → Int32) × (Nat → Int32) × (Nat → Int32) × (Nat → Int32)) (hf : f_X6_readPan text_length text_place text_token text_start text_number draft_pans text_letters draft_years draft_spoons draft_shrinks draft_sorts draft_byAge = some out) : Ci l yX6_readPan wsX6_readPan rmX6_readPan D cI cZ cR [.ref a_text] [(a_text, .inr (6, [.ref a_text_letters, .int text_length, .ref a_draft, .int text_leastTold, .int text_shelfTold, .int text_place, .int text_token, .int text_start, .int text_number])), (a_draft, .inr (2, [.int draft_pans, .int draft_least, .int draft_shelf, .ref a_draft_years, .ref a_draft_spoons, .ref a_draft_shrinks, .ref a_draft_sorts, .ref a_draft_byAge])), (a_text_letters, .inl (cI, 200, .inl text_letters)), (a_draft_years, .inl (cI, 7, .inl draft_years)), (a_draft_spoons, .inl (cI, 7, .inl draft_spoons)), (a_draft_shrinks, .inl (cI, 7, .inl draft_shrinks)), (a_draft_sorts, .inl (cI, 7, .inl draft_sorts)), (a_draft_byAge, .inl (cI, 7, .inl draft_byAge))] out.1 [(a_text, .inr (6, [.ref a_text_letters, .int text_length, .ref a_draft, .int text_leastTold, .int text_shelfTold, .int out.2.1, .int out.2.2.1, .int out.2.2.2.1, .int out.2.2.2.2.1])), (a_draft, .inr (2, [.int out.2.2.2.2.2.1, .int draft_least, .int draft_shelf, .ref a_draft_years, .ref a_draft_spoons, .ref a_draft_shrinks, .ref a_draft_sorts, .ref a_draft_byAge])), (a_text_letters, .inl (cI, 200, .inl text_letters)), (a_draft_years, .inl (cI, 7, .inl out.2.2.2.2.2.2.1)), (a_draft_spoons, .inl (cI, 7, .inl out.2.2.2.2.2.2.2.1)), (a_draft_shrinks, .inl (cI, 7, .inl out.2.2.2.2.2.2.2.2.1)), (a_draft_sorts, .inl (cI, 7, .inl out.2.2.2.2.2.2.2.2.2.1)), (a_draft_byAge, .inl (cI, 7, .inl out.2.2.2.2.2.2.2.2.2.2))] := by
  refine ent_i (cc := cX6_readPan) (maxL := 4) .boolean (by decide) rfl (Nat.le_of_ble_eq_true rfl) ?_
  intro p e s m below meth c A Q hx hb hml hown hts hE hA hP hD hS hret ls hl
  have hown : s.vm.findClass RX6 = some m.cls := hown
  have hl : lv_has ls 4 [(0, .ref a_text)] := hl
  have fL18 := hts (.fieldLink RX6 18 "RainShelves$Text" "draft" "LRainShelves$House;") (List.mem_of_getElem? (i := 1) rfl)
  have fL61 : (Cond.fieldLinkNest RX6 61 "RainShelves$House" "pans" "I" "RainShelves").before ([.ref a_text] : List Value).toArray s = true := hE.nf 2 rfl
  have fL68 := hts (.fieldLink RX6 68 "RainShelves$Text" "number" "I") (List.mem_of_getElem? (i := 2) rfl)
  unfold f_X6_readPan at hf
  refine lv_aload_n hx hb dX6_readPan_0 rfl (lv_at hl 0 rfl) ?_
  refine va_get (D := D) (ci := 6) (v := .ref a_draft) (C := RX6) (T := TX6) (N := 9) hx hb hts hiX6_readPan_6 hown hE.1 hP 0 rfl rfl 2 (by decide) fL18 (fun _ h9 => h9) rfl dX6_readPan_1 ?_
  refine va_getN (D := D) (ci := 2) (v := .int draft_pans) (C := RX2) (T := TX2) (N := 8) hx hb hts hiX6_readPan_2 hown hE.1 hP 1 rfl rfl 0 (by decide) fL61 (fun _ h9 => h9) rfl dX6_readPan_4 ?_
  refine lv_bipush (v := 7) hx hb dX6_readPan_7 (by decide) ?_
  refine lv_icmp_ge (tgt := 22) hx hb dX6_readPan_9 (by decide) (fun hc1 => ?_) (fun hc1 => ?_)
  · have hf := if_t hf hc1
    refine lv_iconst (v := 0) hx hb dX6_readPan_22 (by decide) ?_
    have he := Option.some.inj hf
    subst he
    exact hret _ _ _ _ dX6_readPan_23 bn0 hP hD hS
  · have hf := if_f hf hc1
    refine lv_aload_n hx hb dX6_readPan_12 rfl (lv_at hl 0 rfl) ?_
    refine lv_iconst (v := 0) hx hb dX6_readPan_13 (by decide) ?_
    refine lv_bipush (v := 99) hx hb dX6_readPan_14 (by decide) ?_
    obtain ⟨u1, hu1, hf⟩ := bd_some hf
    refine cl_iV (As := [.int 0, .int 99]) (rest := []) ⟨hx, hb, hml, hown, hts⟩ (c_X6_readNumber l D cI cZ cR a_text a_text_letters a_draft text_length text_leastTold text_shelfTold text_place text_token text_start text_number text_letters 0 99 u1 hu1) (cw_X6_readPan_X6_readNumber_64 hts) hE hP hD hS hA [0, 2] rfl rfl [a_text, a_text_letters] rfl rfl 0 6 rfl rfl rfl hl.1 rfl (Nat.le_of_ble_eq_true rfl) dX6_readPan_16 ⟨Nat.zero_le _, Nat.zero_le _⟩ (fun H locs hP hD hS => ?_)
    have hPD : PD D A [(a_text, .inr (6, [.ref a_text_letters, .int text_length, .ref a_draft, .int text_leastTold, .int text_shelfTold, .int u1.2.1, .int u1.2.2.1, .int u1.2.2.2.1, .int u1.2.2.2.2])), (a_draft, .inr (2, [.int draft_pans, .int draft_least, .int draft_shelf, .ref a_draft_years, .ref a_draft_spoons, .ref a_draft_shrinks, .ref a_draft_sorts, .ref a_draft_byAge])), (a_text_letters, .inl (cI, 200, .inl text_letters)), (a_draft_years, .inl (cI, 7, .inl draft_years)), (a_draft_spoons, .inl (cI, 7, .inl draft_spoons)), (a_draft_shrinks, .inl (cI, 7, .inl draft_shrinks)), (a_draft_sorts, .inl (cI, 7, .inl draft_sorts)), (a_draft_byAge, .inl (cI, 7, .inl draft_byAge))] H := ⟨hP, hD⟩
    obtain ⟨hP, hD⟩ := hPD
    refine lv_if_ne (tgt := 24) hx hb dX6_readPan_19 (by decide) (fun hc2 => ?_) (fun hc2 => ?_)
    · have hf := if_f hf hc2
      refine lv_aload_n hx hb dX6_readPan_24 rfl (lv_at hl 0 rfl) ?_
      refine va_get (D := D) (ci := 6) (v := .int u1.2.2.2.2) (C := RX6) (T := TX6) (N := 9) hx hb hts hiX6_readPan_6 hown hE.1 hP 0 rfl rfl 8 (by decide) fL68 (fun _ h9 => h9) rfl dX6_readPan_25 ?_
      refine lv_istore_n (lv' := [(1, .int u1.2.2.2.2), (0, .ref a_text)]) hx hb dX6_readPan_28 rfl hl (by decide) rfl (fun ls hl => ?_)
      refine lv_aload_n hx hb dX6_readPan_29 rfl (lv_at hl 1 rfl) ?_
      refine lv_iconst (v := 0) hx hb dX6_readPan_30 (by decide) ?_
      refine lv_bipush (v := 60) hx hb dX6_readPan_31 (by decide) ?_
      obtain ⟨u2, hu2, hf⟩ := bd_some hf
      refine cl_iV (As := [.int 0, .int 60]) (rest := []) ⟨hx, hb, hml, hown, hts⟩ (c_X6_readNumber l D cI cZ cR a_text a_text_letters a_draft text_length text_leastTold text_shelfTold u1.2.1 u1.2.2.1 u1.2.2.2.1 u1.2.2.2.2 text_letters 0 60 u2 hu2) (cw_X6_readPan_X6_readNumber_64 hts) hE hP hD hS hA [0, 2] rfl rfl [a_text, a_text_letters] rfl rfl 0 6 rfl rfl rfl hl.1 rfl (Nat.le_of_ble_eq_true rfl) dX6_readPan_33 ⟨Nat.zero_le _, Nat.zero_le _⟩ (fun H locs hP hD hS => ?_)
      have hPD : PD D A [(a_text, .inr (6, [.ref a_text_letters, .int text_length, .ref a_draft, .int text_leastTold, .int text_shelfTold, .int u2.2.1, .int u2.2.2.1, .int u2.2.2.2.1, .int u2.2.2.2.2])), (a_draft, .inr (2, [.int draft_pans, .int draft_least, .int draft_shelf, .ref a_draft_years, .ref a_draft_spoons, .ref a_draft_shrinks, .ref a_draft_sorts, .ref a_draft_byAge])), (a_text_letters, .inl (cI, 200, .inl text_letters)), (a_draft_years, .inl (cI, 7, .inl draft_years)), (a_draft_spoons, .inl (cI, 7, .inl draft_spoons)), (a_draft_shrinks, .inl (cI, 7, .inl draft_shrinks)), (a_draft_sorts, .inl (cI, 7, .inl draft_sorts)), (a_draft_byAge, .inl (cI, 7, .inl draft_byAge))] H := ⟨hP, hD⟩
      obtain ⟨hP, hD⟩ := hPD
      refine lv_if_ne (tgt := 41) hx hb dX6_readPan_36 (by decide) (fun hc3 => ?_) (fun hc3 => ?_)
      · have hf := if_f hf hc3
        refine lv_aload_n hx hb dX6_readPan_41 rfl (lv_at hl 1 rfl) ?_
        refine va_get (D := D) (ci := 6) (v := .int u2.2.2.2.2) (C := RX6) (T := TX6) (N := 9) hx hb hts hiX6_readPan_6 hown hE.1 hP 0 rfl rfl 8 (by decide) fL68 (fun _ h9 => h9) rfl dX6_readPan_42 ?_
        refine lv_istore_n (lv' := [(2, .int u2.2.2.2.2), (1, .int u1.2.2.2.2), (0, .ref a_text)]) hx hb dX6_readPan_45 rfl hl (by decide) rfl (fun ls hl => ?_)
        refine lv_aload_n hx hb dX6_readPan_46 rfl (lv_at hl 2 rfl) ?_
        refine lv_iconst (v := 0) hx hb dX6_readPan_47 (by decide) ?_
        refine lv_bipush (v := 9) hx hb dX6_readPan_48 (by decide) ?_
        obtain ⟨u3, hu3, hf⟩ := bd_some hf
        refine cl_iV (As := [.int 0, .int 9]) (rest := []) ⟨hx, hb, hml, hown, hts⟩ (c_X6_readNumber l D cI cZ cR a_text a_text_letters a_draft text_length text_leastTold text_shelfTold u2.2.1 u2.2.2.1 u2.2.2.2.1 u2.2.2.2.2 text_letters 0 9 u3 hu3) (cw_X6_readPan_X6_readNumber_64 hts) hE hP hD hS hA [0, 2] rfl rfl [a_text, a_text_letters] rfl rfl 0 6 rfl rfl rfl hl.1 rfl (Nat.le_of_ble_eq_true rfl) dX6_readPan_50 ⟨Nat.zero_le _, Nat.zero_le _⟩ (fun H locs hP hD hS => ?_)
        have hPD : PD D A [(a_text, .inr (6, [.ref a_text_letters, .int text_length, .ref a_draft, .int text_leastTold, .int text_shelfTold, .int u3.2.1, .int u3.2.2.1, .int u3.2.2.2.1, .int u3.2.2.2.2])), (a_draft, .inr (2, [.int draft_pans, .int draft_least, .int draft_shelf, .ref a_draft_years, .ref a_draft_spoons, .ref a_draft_shrinks, .ref a_draft_sorts, .ref a_draft_byAge])), (a_text_letters, .inl (cI, 200, .inl text_letters)), (a_draft_years, .inl (cI, 7, .inl draft_years)), (a_draft_spoons, .inl (cI, 7, .inl draft_spoons)), (a_draft_shrinks, .inl (cI, 7, .inl draft_shrinks)), (a_draft_sorts, .inl (cI, 7, .inl draft_sorts)), (a_draft_byAge, .inl (cI, 7, .inl draft_byAge))] H := ⟨hP, hD⟩
        obtain ⟨hP, hD⟩ := hPD
        refine lv_if_ne (tgt := 58) hx hb dX6_readPan_53 (by decide) (fun hc4 => ?_) (fun hc4 => ?_)
        · have hf := if_f hf hc4
          refine lv_aload_n hx hb dX6_readPan_58 rfl (lv_at hl 2 rfl) ?_
          refine va_get (D := D) (ci := 6) (v := .int u3.2.2.2.2) (C := RX6) (T := TX6) (N := 9) hx hb hts hiX6_readPan_6 hown hE.1 hP 0 rfl rfl 8 (by decide) fL68 (fun _ h9 => h9) rfl dX6_readPan_59 ?_
          refine lv_istore_n (lv' := [(3, .int u3.2.2.2.2), (2, .int u2.2.2.2.2), (1, .int u1.2.2.2.2), (0, .ref a_text)]) hx hb dX6_readPan_62 rfl hl (by decide) rfl (fun ls hl => ?_)
          refine lv_aload_n hx hb dX6_readPan_63 rfl (lv_at hl 3 rfl) ?_
          refine lv_iconst (v := 0) hx hb dX6_readPan_64 (by decide) ?_
          refine lv_iconst (v := 2) hx hb dX6_readPan_65 (by decide) ?_
          obtain ⟨u4, hu4, hf⟩ := bd_some hf
          refine cl_iV (As := [.int 0, .int 2]) (rest := []) ⟨hx, hb, hml, hown, hts⟩ (c_X6_readNumber l D cI cZ cR a_text a_text_letters a_draft text_length text_leastTold text_shelfTold u3.2.1 u3.2.2.1 u3.2.2.2.1 u3.2.2.2.2 text_letters 0 2 u4 hu4) (cw_X6_readPan_X6_readNumber_64 hts) hE hP hD hS hA [0, 2] rfl rfl [a_text, a_text_letters] rfl rfl 0 6 rfl rfl rfl hl.1 rfl (Nat.le_of_ble_eq_true rfl) dX6_readPan_66 ⟨Nat.zero_le _, Nat.zero_le _⟩ (fun H locs hP hD hS => ?_)
          have hPD : PD D A [(a_text, .inr (6, [.ref a_text_letters, .int text_length, .ref a_draft, .int text_leastTold, .int text_shelfTold, .int u4.2.1, .int u4.2.2.1, .int u4.2.2.2.1, .int u4.2.2.2.2])), (a_draft, .inr (2, [.int draft_pans, .int draft_least, .int draft_shelf, .ref a_draft_years, .ref a_draft_spoons, .ref a_draft_shrinks, .ref a_draft_sorts, .ref a_draft_byAge])), (a_text_letters, .inl (cI, 200, .inl text_letters)), (a_draft_years, .inl (cI, 7, .inl draft_years)), (a_draft_spoons, .inl (cI, 7, .inl draft_spoons)), (a_draft_shrinks, .inl (cI, 7, .inl draft_shrinks)), (a_draft_sorts, .inl (cI, 7, .inl draft_sorts)), (a_draft_byAge, .inl (cI, 7, .inl draft_byAge))] H := ⟨hP, hD⟩
          obtain ⟨hP, hD⟩ := hPD
          refine lv_if_eq (tgt := 93) hx hb dX6_readPan_69 (by decide) (fun hc5 => ?_) (fun hc5 => ?_)
          · have hf := if_t hf hc5
            refine lv_iconst (v := 0) hx hb dX6_readPan_93 (by decide) ?_
            have he := Option.some.inj hf
            subst he
            exact hret _ _ _ _ dX6_readPan_94 bn0 hP hD hS
          · have hf := if_f hf hc5
            refine lv_aload_n hx hb dX6_readPan_72 rfl (lv_at hl 3 rfl) ?_
            refine va_get (D := D) (ci := 6) (v := .ref a_draft) (C := RX6) (T := TX6) (N := 9) hx hb hts hiX6_readPan_6 hown hE.1 hP 0 rfl rfl 2 (by decide) fL18 (fun _ h9 => h9) rfl dX6_readPan_73 ?_
            refine lv_iload_n hx hb dX6_readPan_76 rfl (lv_at hl 2 rfl) ?_
            refine lv_iload_n hx hb dX6_readPan_77 rfl (lv_at hl 1 rfl) ?_
            refine lv_iload_n hx hb dX6_readPan_78 rfl (lv_at hl 0 rfl) ?_
            refine lv_aload_n hx hb dX6_readPan_79 rfl (lv_at hl 3 rfl) ?_
            refine va_get (D := D) (ci := 6) (v := .int u4.2.2.2.2) (C := RX6) (T := TX6) (N := 9) hx hb hts hiX6_readPan_6 hown hE.1 hP 0 rfl rfl 8 (by decide) fL68 (fun _ h9 => h9) rfl dX6_readPan_80 ?_
            obtain ⟨u5, hu5, hf⟩ := bd_some hf
            refine cl_iN (As := [.int u1.2.2.2.2, .int u2.2.2.2.2, .int u3.2.2.2.2, .int u4.2.2.2.2]) (rest := []) ⟨hx, hb, hml, hown, hts⟩ (c_X2_append l D cI cZ cR a_draft a_draft_years a_draft_spoons a_draft_shrinks a_draft_sorts a_draft_byAge draft_pans draft_least draft_shelf draft_years draft_spoons draft_shrinks draft_sorts draft_byAge u1.2.2.2.2 u2.2.2.2.2 u3.2.2.2.2 u4.2.2.2.2 u5 hu5) (cw_X6_readPan_X2_append_71 hE hts) hE hP hD hS hA [1, 3, 4, 5, 6, 7] rfl rfl [a_draft, a_draft_years, a_draft_spoons, a_draft_shrinks, a_draft_sorts, a_draft_byAge] rfl rfl 1 2 rfl rfl rfl hl.1 rfl (Nat.le_of_ble_eq_true rfl) dX6_readPan_83 ⟨Nat.zero_le _, Nat.zero_le _⟩ (fun H locs hP hD hS => ?_)
            have hPD : PD D A [(a_text, .inr (6, [.ref a_text_letters, .int text_length, .ref a_draft, .int text_leastTold, .int text_shelfTold, .int u4.2.1, .int u4.2.2.1, .int u4.2.2.2.1, .int u4.2.2.2.2])), (a_draft, .inr (2, [.int u5.2.1, .int draft_least, .int draft_shelf, .ref a_draft_years, .ref a_draft_spoons, .ref a_draft_shrinks, .ref a_draft_sorts, .ref a_draft_byAge])), (a_text_letters, .inl (cI, 200, .inl text_letters)), (a_draft_years, .inl (cI, 7, .inl u5.2.2.1)), (a_draft_spoons, .inl (cI, 7, .inl u5.2.2.2.1)), (a_draft_shrinks, .inl (cI, 7, .inl u5.2.2.2.2.1)), (a_draft_sorts, .inl (cI, 7, .inl u5.2.2.2.2.2.1)), (a_draft_byAge, .inl (cI, 7, .inl u5.2.2.2.2.2.2))] H := ⟨hP, hD⟩
            obtain ⟨hP, hD⟩ := hPD
            refine lv_if_eq (tgt := 93) hx hb dX6_readPan_86 (by decide) (fun hc6 => ?_) (fun hc6 => ?_)
            · have hf := if_t hf hc6
              refine lv_iconst (v := 0) hx hb dX6_readPan_93 (by decide) ?_
              have he := Option.some.inj hf
              subst he
              exact hret _ _ _ _ dX6_readPan_94 bn0 hP hD hS
            · have hf := if_f hf hc6
              refine lv_iconst (v := 1) hx hb dX6_readPan_89 (by decide) ?_
              refine lv_goto (tgt := 94) hx hb dX6_readPan_90 (by decide) ?_
              have he := Option.some.inj hf
              subst he
              exact hret _ _ _ _ dX6_readPan_94 bn1 hP hD hS
        · have hf := if_t hf hc4
          refine lv_iconst (v := 0) hx hb dX6_readPan_56 (by decide) ?_
          have he := Option.some.inj hf
          subst he
          exact hret _ _ _ _ dX6_readPan_57 bn0 hP hD hS
      · have hf := if_t hf hc3
        refine lv_iconst (v := 0) hx hb dX6_readPan_39 (by decide) ?_
        have he := Option.some.inj hf
        subst he
        exact hret _ _ _ _ dX6_readPan_40 bn0 hP hD hS
    · have hf := if_t hf hc2
      refine lv_iconst (v := 0) hx hb dX6_readPan_22 (by decide) ?_
      have he := Option.some.inj hf
      subst he
      exact hret _ _ _ _ dX6_readPan_23 bn0 hP hD hS
abbrev rmX6_readLeast : Room := { frames := 4, cells := 0, slots := 0, locals := 85 }
theorem hiX6_readLeast_2 : ∀ w ∈ wsX20, w ∈ wsX6_readLeast := fun w h => (goodIn_r (big := wsX6_readLeast) wsX20 [38, 39, 40, 41, 42, 43, 44, 45] rfl (by decide +kernel) w h).1
theorem hiX6_readLeast_6 : ∀ w ∈ wsX60, w ∈ wsX6_readLeast := fun w h => (goodIn_r (big := wsX6_readLeast) wsX60 [29, 30, 31, 32, 33, 34, 35, 36, 37] rfl (by decide +kernel) w h).1
theorem cw_X6_readLeast_X6_readNumber_64 {s : State} {args : Array Value} (hts : ∀ x ∈ wsX6_readLeast, x.before args s = true) : CallW rmX6_readLeast s args RX6 RX6 64 yX6_readNumber cX6_readNumber 3 (some .boolean) wsX6_readNumber rmX6_readNumber 0 0 2 := cwV 2 hts gX6_readLeast_X6_readNumber rfl rfl rfl (by decide +kernel) ⟨Nat.le_of_ble_eq_true rfl, Nat.le_of_ble_eq_true rfl⟩
set_option maxRecDepth 100000 in
set_option maxHeartbeats 4000000 in
theorem c_X6_readLeast (l : Launch) (D : va_G) (cI cZ cR : ClassId) (a_text : Nat) (a_text_letters : Nat) (a_draft : Nat) (a_draft_years : Nat) (a_draft_spoons : Nat) (a_draft_shrinks : Nat) (a_draft_sorts : Nat) (a_draft_byAge : Nat) (text_length : Int32) (text_leastTold : Int32) (text_shelfTold : Int32) (text_place : Int32) (text_token : Int32) (text_start : Int32) (text_number : Int32) (text_letters : Nat → Int32) (draft_pans : Int32) (draft_least : Int32) (draft_shelf : Int32) (out : Int32 × Int32 × Int32 × Int32 × Int32 × Int32 × Int32) (hf : f_X6_readLeast text_length text_leastTold text_place text_token text_start text_number text_letters draft_least = some out) : Ci l yX6_readLeast wsX6_readLeast rmX6_readLeast D cI cZ cR [.ref a_text] [(a_text, .inr (6, [.ref a_text_letters, .int text_length, .ref a_draft, .int text_leastTold, .int text_shelfTold, .int text_place, .int text_token, .int text_start, .int text_number])), (a_text_letters, .inl (cI, 200, .inl text_letters)), (a_draft, .inr (2, [.int draft_pans, .int draft_least, .int draft_shelf, .ref a_draft_years, .ref a_draft_spoons, .ref a_draft_shrinks, .ref a_draft_sorts, .ref a_draft_byAge]))] out.1 [(a_text, .inr (6, [.ref a_text_letters, .int text_length, .ref a_draft, .int out.2.1, .int text_shelfTold, .int out.2.2.1, .int out.2.2.2.1, .int out.2.2.2.2.1, .int out.2.2.2.2.2.1])), (a_text_letters, .inl (cI, 200, .inl text_letters)), (a_draft, .inr (2, [.int draft_pans, .int out.2.2.2.2.2.2, .int draft_shelf, .ref a_draft_years, .ref a_draft_spoons, .ref a_draft_shrinks, .ref a_draft_sorts, .ref a_draft_byAge]))] := by
  refine ent_i (cc := cX6_readLeast) (maxL := 1) .boolean (by decide) rfl (Nat.le_of_ble_eq_true rfl) ?_
  intro p e s m below meth c A Q hx hb hml hown hts hE hA hP hD hS hret ls hl
  have hown : s.vm.findClass RX6 = some m.cls := hown
  have hl : lv_has ls 1 [(0, .ref a_text)] := hl
  have fL18 := hts (.fieldLink RX6 18 "RainShelves$Text" "draft" "LRainShelves$House;") (List.mem_of_getElem? (i := 2) rfl)
  have fL29 := hts (.fieldLink RX6 29 "RainShelves$Text" "leastTold" "Z") (List.mem_of_getElem? (i := 1) rfl)
  have fL68 := hts (.fieldLink RX6 68 "RainShelves$Text" "number" "I") (List.mem_of_getElem? (i := 3) rfl)
  have fL75 : (Cond.fieldLinkNest RX6 75 "RainShelves$House" "least" "I" "RainShelves").before ([.ref a_text] : List Value).toArray s = true := hE.nf 4 rfl
  unfold f_X6_readLeast at hf
  refine lv_aload_n hx hb dX6_readLeast_0 rfl (lv_at hl 0 rfl) ?_
  refine va_get (D := D) (ci := 6) (v := .int text_leastTold) (C := RX6) (T := TX6) (N := 9) hx hb hts hiX6_readLeast_6 hown hE.1 hP 0 rfl rfl 3 (by decide) fL29 (fun _ h9 => h9) rfl dX6_readLeast_1 ?_
  refine lv_if_ne (tgt := 17) hx hb dX6_readLeast_4 (by decide) (fun hc1 => ?_) (fun hc1 => ?_)
  · have hf := if_f hf hc1
    refine lv_iconst (v := 0) hx hb dX6_readLeast_17 (by decide) ?_
    have he := Option.some.inj hf
    subst he
    exact hret _ _ _ _ dX6_readLeast_18 bn0 hP hD hS
  · have hf := if_t hf hc1
    refine lv_aload_n hx hb dX6_readLeast_7 rfl (lv_at hl 0 rfl) ?_
    refine lv_iconst (v := 1) hx hb dX6_readLeast_8 (by decide) ?_
    refine lv_bipush (v := 60) hx hb dX6_readLeast_9 (by decide) ?_
    obtain ⟨u1, hu1, hf⟩ := bd_some hf
    refine cl_iV (As := [.int 1, .int 60]) (rest := []) ⟨hx, hb, hml, hown, hts⟩ (c_X6_readNumber l D cI cZ cR a_text a_text_letters a_draft text_length text_leastTold text_shelfTold text_place text_token text_start text_number text_letters 1 60 u1 hu1) (cw_X6_readLeast_X6_readNumber_64 hts) hE hP hD hS hA [0, 1] rfl rfl [a_text, a_text_letters] rfl rfl 0 6 rfl rfl rfl hl.1 rfl (Nat.le_of_ble_eq_true rfl) dX6_readLeast_11 ⟨Nat.zero_le _, Nat.zero_le _⟩ (fun H locs hP hD hS => ?_)
    have hPD : PD D A [(a_text, .inr (6, [.ref a_text_letters, .int text_length, .ref a_draft, .int text_leastTold, .int text_shelfTold, .int u1.2.1, .int u1.2.2.1, .int u1.2.2.2.1, .int u1.2.2.2.2])), (a_text_letters, .inl (cI, 200, .inl text_letters)), (a_draft, .inr (2, [.int draft_pans, .int draft_least, .int draft_shelf, .ref a_draft_years, .ref a_draft_spoons, .ref a_draft_shrinks, .ref a_draft_sorts, .ref a_draft_byAge]))] H := ⟨hP, hD⟩
    obtain ⟨hP, hD⟩ := hPD
    refine lv_if_ne (tgt := 19) hx hb dX6_readLeast_14 (by decide) (fun hc2 => ?_) (fun hc2 => ?_)
    · have hf := if_f hf hc2
      refine lv_aload_n hx hb dX6_readLeast_19 rfl (lv_at hl 0 rfl) ?_
      refine lv_iconst (v := 1) hx hb dX6_readLeast_20 (by decide) ?_
      refine va_put (D := D) (ci := 6) (v := .int 1) (ty := .boolean) (C := RX6) (T := TX6) (N := 9) hx hb hts hiX6_readLeast_6 tyX6 tyX6_ok nmX6 hown hE.1 hP hD hS 0 rfl rfl 3 (by decide) fL29 (fun _ h9 => h9) rfl (tyX6_ok 3 (by decide)) rfl rfl (Nat.le_of_ble_eq_true rfl) dX6_readLeast_21 (fun H locs hP hD hS => ?_)
      have hPD : PD D A [(a_text, .inr (6, [.ref a_text_letters, .int text_length, .ref a_draft, .int 1, .int text_shelfTold, .int u1.2.1, .int u1.2.2.1, .int u1.2.2.2.1, .int u1.2.2.2.2])), (a_text_letters, .inl (cI, 200, .inl text_letters)), (a_draft, .inr (2, [.int draft_pans, .int draft_least, .int draft_shelf, .ref a_draft_years, .ref a_draft_spoons, .ref a_draft_shrinks, .ref a_draft_sorts, .ref a_draft_byAge]))] H := ⟨hP, hD⟩
      obtain ⟨hP, hD⟩ := hPD
      refine lv_aload_n hx hb dX6_readLeast_24 rfl (lv_at hl 0 rfl) ?_
      refine va_get (D := D) (ci := 6) (v := .ref a_draft) (C := RX6) (T := TX6) (N := 9) hx hb hts hiX6_readLeast_6 hown hE.1 hP 0 rfl rfl 2 (by decide) fL18 (fun _ h9 => h9) rfl dX6_readLeast_25 ?_
      refine lv_aload_n hx hb dX6_readLeast_28 rfl (lv_at hl 0 rfl) ?_
      refine va_get (D := D) (ci := 6) (v := .int u1.2.2.2.2) (C := RX6) (T := TX6) (N := 9) hx hb hts hiX6_readLeast_6 hown hE.1 hP 0 rfl rfl 8 (by decide) fL68 (fun _ h9 => h9) rfl dX6_readLeast_29 ?_
      refine va_putN (D := D) (ci := 2) (v := .int u1.2.2.2.2) (ty := .int) (C := RX2) (T := TX2) (N := 8) hx hb hts hiX6_readLeast_2 tyX2 tyX2_ok nmX2 hown hE.1 hP hD hS 2 rfl rfl 1 (by decide) fL75 (fun _ h9 => h9) rfl (tyX2_ok 1 (by decide)) rfl rfl (Nat.le_of_ble_eq_true rfl) dX6_readLeast_32 (fun H locs hP hD hS => ?_)
      have hPD : PD D A [(a_text, .inr (6, [.ref a_text_letters, .int text_length, .ref a_draft, .int 1, .int text_shelfTold, .int u1.2.1, .int u1.2.2.1, .int u1.2.2.2.1, .int u1.2.2.2.2])), (a_text_letters, .inl (cI, 200, .inl text_letters)), (a_draft, .inr (2, [.int draft_pans, .int u1.2.2.2.2, .int draft_shelf, .ref a_draft_years, .ref a_draft_spoons, .ref a_draft_shrinks, .ref a_draft_sorts, .ref a_draft_byAge]))] H := ⟨hP, hD⟩
      obtain ⟨hP, hD⟩ := hPD
      refine lv_iconst (v := 1) hx hb dX6_readLeast_35 (by decide) ?_
      have he := Option.some.inj hf
      subst he
      exact hret _ _ _ _ dX6_readLeast_36 bn1 hP hD hS
    · have hf := if_t hf hc2
      refine lv_iconst (v := 0) hx hb dX6_readLeast_17 (by decide) ?_
      have he := Option.some.inj hf
      subst he
      exact hret _ _ _ _ dX6_readLeast_18 bn0 hP hD hS
abbrev rmX6_readShelf : Room := { frames := 4, cells := 0, slots := 0, locals := 85 }
theorem hiX6_readShelf_2 : ∀ w ∈ wsX20, w ∈ wsX6_readShelf := fun w h => (goodIn_r (big := wsX6_readShelf) wsX20 [38, 39, 40, 41, 42, 43, 44, 45] rfl (by decide +kernel) w h).1
theorem hiX6_readShelf_6 : ∀ w ∈ wsX60, w ∈ wsX6_readShelf := fun w h => (goodIn_r (big := wsX6_readShelf) wsX60 [29, 30, 31, 32, 33, 34, 35, 36, 37] rfl (by decide +kernel) w h).1
theorem cw_X6_readShelf_X6_readNumber_64 {s : State} {args : Array Value} (hts : ∀ x ∈ wsX6_readShelf, x.before args s = true) : CallW rmX6_readShelf s args RX6 RX6 64 yX6_readNumber cX6_readNumber 3 (some .boolean) wsX6_readNumber rmX6_readNumber 0 0 2 := cwV 2 hts gX6_readShelf_X6_readNumber rfl rfl rfl (by decide +kernel) ⟨Nat.le_of_ble_eq_true rfl, Nat.le_of_ble_eq_true rfl⟩
set_option maxRecDepth 100000 in
set_option maxHeartbeats 4000000 in
theorem c_X6_readShelf (l : Launch) (D : va_G) (cI cZ cR : ClassId) (a_text : Nat) (a_text_letters : Nat) (a_draft : Nat) (a_draft_years : Nat) (a_draft_spoons : Nat) (a_draft_shrinks : Nat) (a_draft_sorts : Nat) (a_draft_byAge : Nat) (text_length : Int32) (text_leastTold : Int32) (text_shelfTold : Int32) (text_place : Int32) (text_token : Int32) (text_start : Int32) (text_number : Int32) (text_letters : Nat → Int32) (draft_pans : Int32) (draft_least : Int32) (draft_shelf : Int32) (out : Int32 × Int32 × Int32 × Int32 × Int32 × Int32 × Int32) (hf : f_X6_readShelf text_length text_shelfTold text_place text_token text_start text_number text_letters draft_shelf = some out) : Ci l yX6_readShelf wsX6_readShelf rmX6_readShelf D cI cZ cR [.ref a_text] [(a_text, .inr (6, [.ref a_text_letters, .int text_length, .ref a_draft, .int text_leastTold, .int text_shelfTold, .int text_place, .int text_token, .int text_start, .int text_number])), (a_text_letters, .inl (cI, 200, .inl text_letters)), (a_draft, .inr (2, [.int draft_pans, .int draft_least, .int draft_shelf, .ref a_draft_years, .ref a_draft_spoons, .ref a_draft_shrinks, .ref a_draft_sorts, .ref a_draft_byAge]))] out.1 [(a_text, .inr (6, [.ref a_text_letters, .int text_length, .ref a_draft, .int text_leastTold, .int out.2.1, .int out.2.2.1, .int out.2.2.2.1, .int out.2.2.2.2.1, .int out.2.2.2.2.2.1])), (a_text_letters, .inl (cI, 200, .inl text_letters)), (a_draft, .inr (2, [.int draft_pans, .int draft_least, .int out.2.2.2.2.2.2, .ref a_draft_years, .ref a_draft_spoons, .ref a_draft_shrinks, .ref a_draft_sorts, .ref a_draft_byAge]))] := by
  refine ent_i (cc := cX6_readShelf) (maxL := 1) .boolean (by decide) rfl (Nat.le_of_ble_eq_true rfl) ?_
  intro p e s m below meth c A Q hx hb hml hown hts hE hA hP hD hS hret ls hl
  have hown : s.vm.findClass RX6 = some m.cls := hown
  have hl : lv_has ls 1 [(0, .ref a_text)] := hl
  have fL18 := hts (.fieldLink RX6 18 "RainShelves$Text" "draft" "LRainShelves$House;") (List.mem_of_getElem? (i := 2) rfl)
  have fL33 := hts (.fieldLink RX6 33 "RainShelves$Text" "shelfTold" "Z") (List.mem_of_getElem? (i := 1) rfl)
  have fL68 := hts (.fieldLink RX6 68 "RainShelves$Text" "number" "I") (List.mem_of_getElem? (i := 3) rfl)
  have fL78 : (Cond.fieldLinkNest RX6 78 "RainShelves$House" "shelf" "I" "RainShelves").before ([.ref a_text] : List Value).toArray s = true := hE.nf 8 rfl
  unfold f_X6_readShelf at hf
  refine lv_aload_n hx hb dX6_readShelf_0 rfl (lv_at hl 0 rfl) ?_
  refine va_get (D := D) (ci := 6) (v := .int text_shelfTold) (C := RX6) (T := TX6) (N := 9) hx hb hts hiX6_readShelf_6 hown hE.1 hP 0 rfl rfl 4 (by decide) fL33 (fun _ h9 => h9) rfl dX6_readShelf_1 ?_
  refine lv_if_ne (tgt := 18) hx hb dX6_readShelf_4 (by decide) (fun hc1 => ?_) (fun hc1 => ?_)
  · have hf := if_f hf hc1
    refine lv_iconst (v := 0) hx hb dX6_readShelf_18 (by decide) ?_
    have he := Option.some.inj hf
    subst he
    exact hret _ _ _ _ dX6_readShelf_19 bn0 hP hD hS
  · have hf := if_t hf hc1
    refine lv_aload_n hx hb dX6_readShelf_7 rfl (lv_at hl 0 rfl) ?_
    refine lv_bipush (v := 10) hx hb dX6_readShelf_8 (by decide) ?_
    refine lv_bipush (v := 99) hx hb dX6_readShelf_10 (by decide) ?_
    obtain ⟨u1, hu1, hf⟩ := bd_some hf
    refine cl_iV (As := [.int 10, .int 99]) (rest := []) ⟨hx, hb, hml, hown, hts⟩ (c_X6_readNumber l D cI cZ cR a_text a_text_letters a_draft text_length text_leastTold text_shelfTold text_place text_token text_start text_number text_letters 10 99 u1 hu1) (cw_X6_readShelf_X6_readNumber_64 hts) hE hP hD hS hA [0, 1] rfl rfl [a_text, a_text_letters] rfl rfl 0 6 rfl rfl rfl hl.1 rfl (Nat.le_of_ble_eq_true rfl) dX6_readShelf_12 ⟨Nat.zero_le _, Nat.zero_le _⟩ (fun H locs hP hD hS => ?_)
    have hPD : PD D A [(a_text, .inr (6, [.ref a_text_letters, .int text_length, .ref a_draft, .int text_leastTold, .int text_shelfTold, .int u1.2.1, .int u1.2.2.1, .int u1.2.2.2.1, .int u1.2.2.2.2])), (a_text_letters, .inl (cI, 200, .inl text_letters)), (a_draft, .inr (2, [.int draft_pans, .int draft_least, .int draft_shelf, .ref a_draft_years, .ref a_draft_spoons, .ref a_draft_shrinks, .ref a_draft_sorts, .ref a_draft_byAge]))] H := ⟨hP, hD⟩
    obtain ⟨hP, hD⟩ := hPD
    refine lv_if_ne (tgt := 20) hx hb dX6_readShelf_15 (by decide) (fun hc2 => ?_) (fun hc2 => ?_)
    · have hf := if_f hf hc2
      refine lv_aload_n hx hb dX6_readShelf_20 rfl (lv_at hl 0 rfl) ?_
      refine lv_iconst (v := 1) hx hb dX6_readShelf_21 (by decide) ?_
      refine va_put (D := D) (ci := 6) (v := .int 1) (ty := .boolean) (C := RX6) (T := TX6) (N := 9) hx hb hts hiX6_readShelf_6 tyX6 tyX6_ok nmX6 hown hE.1 hP hD hS 0 rfl rfl 4 (by decide) fL33 (fun _ h9 => h9) rfl (tyX6_ok 4 (by decide)) rfl rfl (Nat.le_of_ble_eq_true rfl) dX6_readShelf_22 (fun H locs hP hD hS => ?_)
      have hPD : PD D A [(a_text, .inr (6, [.ref a_text_letters, .int text_length, .ref a_draft, .int text_leastTold, .int 1, .int u1.2.1, .int u1.2.2.1, .int u1.2.2.2.1, .int u1.2.2.2.2])), (a_text_letters, .inl (cI, 200, .inl text_letters)), (a_draft, .inr (2, [.int draft_pans, .int draft_least, .int draft_shelf, .ref a_draft_years, .ref a_draft_spoons, .ref a_draft_shrinks, .ref a_draft_sorts, .ref a_draft_byAge]))] H := ⟨hP, hD⟩
      obtain ⟨hP, hD⟩ := hPD
      refine lv_aload_n hx hb dX6_readShelf_25 rfl (lv_at hl 0 rfl) ?_
      refine va_get (D := D) (ci := 6) (v := .ref a_draft) (C := RX6) (T := TX6) (N := 9) hx hb hts hiX6_readShelf_6 hown hE.1 hP 0 rfl rfl 2 (by decide) fL18 (fun _ h9 => h9) rfl dX6_readShelf_26 ?_
      refine lv_aload_n hx hb dX6_readShelf_29 rfl (lv_at hl 0 rfl) ?_
      refine va_get (D := D) (ci := 6) (v := .int u1.2.2.2.2) (C := RX6) (T := TX6) (N := 9) hx hb hts hiX6_readShelf_6 hown hE.1 hP 0 rfl rfl 8 (by decide) fL68 (fun _ h9 => h9) rfl dX6_readShelf_30 ?_
      refine va_putN (D := D) (ci := 2) (v := .int u1.2.2.2.2) (ty := .int) (C := RX2) (T := TX2) (N := 8) hx hb hts hiX6_readShelf_2 tyX2 tyX2_ok nmX2 hown hE.1 hP hD hS 2 rfl rfl 2 (by decide) fL78 (fun _ h9 => h9) rfl (tyX2_ok 2 (by decide)) rfl rfl (Nat.le_of_ble_eq_true rfl) dX6_readShelf_33 (fun H locs hP hD hS => ?_)
      have hPD : PD D A [(a_text, .inr (6, [.ref a_text_letters, .int text_length, .ref a_draft, .int text_leastTold, .int 1, .int u1.2.1, .int u1.2.2.1, .int u1.2.2.2.1, .int u1.2.2.2.2])), (a_text_letters, .inl (cI, 200, .inl text_letters)), (a_draft, .inr (2, [.int draft_pans, .int draft_least, .int u1.2.2.2.2, .ref a_draft_years, .ref a_draft_spoons, .ref a_draft_shrinks, .ref a_draft_sorts, .ref a_draft_byAge]))] H := ⟨hP, hD⟩
      obtain ⟨hP, hD⟩ := hPD
      refine lv_iconst (v := 1) hx hb dX6_readShelf_36 (by decide) ?_
      have he := Option.some.inj hf
      subst he
      exact hret _ _ _ _ dX6_readShelf_37 bn1 hP hD hS
    · have hf := if_t hf hc2
      refine lv_iconst (v := 0) hx hb dX6_readShelf_18 (by decide) ?_
      have he := Option.some.inj hf
      subst he
      exact hret _ _ _ _ dX6_readShelf_19 bn0 hP hD hS
abbrev rmX6_readItem : Room := { frames := 5, cells := 0, slots := 0, locals := 108 }
theorem hiX6_readItem_6 : ∀ w ∈ wsX60, w ∈ wsX6_readItem := fun w h => (goodIn_r (big := wsX6_readItem) wsX60 [52, 53, 54, 55, 56, 57, 58, 59, 60] rfl (by decide +kernel) w h).1
theorem cw_X6_readItem_X6_step_39 {s : State} {args : Array Value} (hts : ∀ x ∈ wsX6_readItem, x.before args s = true) : CallW rmX6_readItem s args RX6 RX6 39 yX6_step cX6_step 1 none wsX6_step rmX6_step 0 0 0 := cwV 0 hts gX6_readItem_X6_step rfl rfl rfl (by decide +kernel) ⟨Nat.le_of_ble_eq_true rfl, Nat.le_of_ble_eq_true rfl⟩
theorem cw_X6_readItem_X6_readShelf_58 {s : State} {args : Array Value} (hts : ∀ x ∈ wsX6_readItem, x.before args s = true) : CallW rmX6_readItem s args RX6 RX6 58 yX6_readShelf cX6_readShelf 1 (some .boolean) wsX6_readShelf rmX6_readShelf 0 0 0 := cwV 0 hts gX6_readItem_X6_readShelf rfl rfl rfl (by decide +kernel) ⟨Nat.le_of_ble_eq_true rfl, Nat.le_of_ble_eq_true rfl⟩
theorem cw_X6_readItem_X6_readLeast_55 {s : State} {args : Array Value} (hts : ∀ x ∈ wsX6_readItem, x.before args s = true) : CallW rmX6_readItem s args RX6 RX6 55 yX6_readLeast cX6_readLeast 1 (some .boolean) wsX6_readLeast rmX6_readLeast 0 0 0 := cwV 0 hts gX6_readItem_X6_readLeast rfl rfl rfl (by decide +kernel) ⟨Nat.le_of_ble_eq_true rfl, Nat.le_of_ble_eq_true rfl⟩
theorem cw_X6_readItem_X6_readPan_52 {s : State} {args : Array Value} (hts : ∀ x ∈ wsX6_readItem, x.before args s = true) : CallW rmX6_readItem s args RX6 RX6 52 yX6_readPan cX6_readPan 4 (some .boolean) wsX6_readPan rmX6_readPan 0 0 0 := cwV 0 hts gX6_readItem_X6_readPan rfl rfl rfl (by decide +kernel) ⟨Nat.le_of_ble_eq_true rfl, Nat.le_of_ble_eq_true rfl⟩
set_option maxRecDepth 100000 in
set_option maxHeartbeats 4000000 in
theorem c_X6_readItem (l : Launch) (D : va_G) (cI cZ cR : ClassId) (a_text : Nat) (a_draft : Nat) (a_text_letters : Nat) (a_draft_years : Nat) (a_draft_spoons : Nat) (a_draft_shrinks : Nat) (a_draft_sorts : Nat) (a_draft_byAge : Nat) (text_length : Int32) (text_leastTold : Int32) (text_shelfTold : Int32) (text_place : Int32) (text_token : Int32) (text_start : Int32) (text_number : Int32) (draft_pans : Int32) (draft_least : Int32) (draft_shelf : Int32) (text_letters : Nat → Int32) (draft_years : Nat → Int32) (draft_spoons : Nat → Int32) (draft_shrinks : Nat → Int32) (draft_sorts : Nat → Int32) (draft_byAge : Nat → Int32) (out : Int32 × Int32 × Int32 × Int32 × Int32 × Int32 × Int32 × Int32 × Int32 × Int32 × (Nat → Int32) × (Nat → Int32) × (Nat → Int32) × (Nat → Int32) × (Nat → Int32)) (hf : f_X6_readItem text_length text_leastTold text_shelfTold text_place text_token text_start text_number draft_pans draft_least draft_shelf text_letters draft_years draft_spoons draft_shrinks draft_sorts draft_byAge = some out) : Ci l yX6_readItem wsX6_readItem rmX6_readItem D cI cZ cR [.ref a_text] [(a_text, .inr (6, [.ref a_text_letters, .int text_length, .ref a_draft, .int text_leastTold, .int text_shelfTold, .int text_place, .int text_token, .int text_start, .int text_number])), (a_draft, .inr (2, [.int draft_pans, .int draft_least, .int draft_shelf, .ref a_draft_years, .ref a_draft_spoons, .ref a_draft_shrinks, .ref a_draft_sorts, .ref a_draft_byAge])), (a_text_letters, .inl (cI, 200, .inl text_letters)), (a_draft_years, .inl (cI, 7, .inl draft_years)), (a_draft_spoons, .inl (cI, 7, .inl draft_spoons)), (a_draft_shrinks, .inl (cI, 7, .inl draft_shrinks)), (a_draft_sorts, .inl (cI, 7, .inl draft_sorts)), (a_draft_byAge, .inl (cI, 7, .inl draft_byAge))] out.1 [(a_text, .inr (6, [.ref a_text_letters, .int text_length, .ref a_draft, .int out.2.1, .int out.2.2.1, .int out.2.2.2.1, .int out.2.2.2.2.1, .int out.2.2.2.2.2.1, .int out.2.2.2.2.2.2.1])), (a_draft, .inr (2, [.int out.2.2.2.2.2.2.2.1, .int out.2.2.2.2.2.2.2.2.1, .int out.2.2.2.2.2.2.2.2.2.1, .ref a_draft_years, .ref a_draft_spoons, .ref a_draft_shrinks, .ref a_draft_sorts, .ref a_draft_byAge])), (a_text_letters, .inl (cI, 200, .inl text_letters)), (a_draft_years, .inl (cI, 7, .inl out.2.2.2.2.2.2.2.2.2.2.1)), (a_draft_spoons, .inl (cI, 7, .inl out.2.2.2.2.2.2.2.2.2.2.2.1)), (a_draft_shrinks, .inl (cI, 7, .inl out.2.2.2.2.2.2.2.2.2.2.2.2.1)), (a_draft_sorts, .inl (cI, 7, .inl out.2.2.2.2.2.2.2.2.2.2.2.2.2.1)), (a_draft_byAge, .inl (cI, 7, .inl out.2.2.2.2.2.2.2.2.2.2.2.2.2.2))] := by
  refine ent_i (cc := cX6_readItem) (maxL := 2) .boolean (by decide) rfl (Nat.le_of_ble_eq_true rfl) ?_
  intro p e s m below meth c A Q hx hb hml hown hts hE hA hP hD hS hret ls hl
  have hown : s.vm.findClass RX6 = some m.cls := hown
  have hl : lv_has ls 2 [(0, .ref a_text)] := hl
  have fL42 := hts (.fieldLink RX6 42 "RainShelves$Text" "token" "I") (List.mem_of_getElem? (i := 1) rfl)
  unfold f_X6_readItem at hf
  have J50 : ∀ (v1_50 : Int32) (text_leastTold_50 : Int32) (text_shelfTold_50 : Int32) (text_place_50 : Int32) (text_token_50 : Int32) (text_start_50 : Int32) (text_number_50 : Int32) (draft_pans_50 : Int32) (draft_least_50 : Int32) (draft_shelf_50 : Int32) (draft_years_50 : Nat → Int32) (draft_spoons_50 : Nat → Int32) (draft_shrinks_50 : Nat → Int32) (draft_sorts_50 : Nat → Int32) (draft_byAge_50 : Nat → Int32), f_X6_readItem_J50 text_length text_letters v1_50 text_leastTold_50 text_shelfTold_50 text_place_50 text_token_50 text_start_50 text_number_50 draft_pans_50 draft_least_50 draft_shelf_50 draft_years_50 draft_spoons_50 draft_shrinks_50 draft_sorts_50 draft_byAge_50 = some out → ∀ (H : Heap) (locs : List Loc) (ls : Array Slot), PD D A [(a_text, .inr (6, [.ref a_text_letters, .int text_length, .ref a_draft, .int text_leastTold_50, .int text_shelfTold_50, .int text_place_50, .int text_token_50, .int text_start_50, .int text_number_50])), (a_draft, .inr (2, [.int draft_pans_50, .int draft_least_50, .int draft_shelf_50, .ref a_draft_years, .ref a_draft_spoons, .ref a_draft_shrinks, .ref a_draft_sorts, .ref a_draft_byAge])), (a_text_letters, .inl (cI, 200, .inl text_letters)), (a_draft_years, .inl (cI, 7, .inl draft_years_50)), (a_draft_spoons, .inl (cI, 7, .inl draft_spoons_50)), (a_draft_shrinks, .inl (cI, 7, .inl draft_shrinks_50)), (a_draft_sorts, .inl (cI, 7, .inl draft_sorts_50)), (a_draft_byAge, .inl (cI, 7, .inl draft_byAge_50))] H → va_S A s.heap H locs → lv_has ls 2 [(0, .ref a_text), (1, .int v1_50)] → W p l e rmX6_readItem s m ([.ref a_text] : List Value).toArray below meth c H locs 0 0 Q (F0 m 50 ls []) := by
    intro v1_50 text_leastTold_50 text_shelfTold_50 text_place_50 text_token_50 text_start_50 text_number_50 draft_pans_50 draft_least_50 draft_shelf_50 draft_years_50 draft_spoons_50 draft_shrinks_50 draft_sorts_50 draft_byAge_50 hf H locs ls hPD hS hl
    obtain ⟨hP, hD⟩ := hPD
    unfold f_X6_readItem_J50 at hf
    refine lv_iload_n hx hb dX6_readItem_50 rfl (lv_at hl 1 rfl) ?_
    refine lv_if_ne (tgt := 56) hx hb dX6_readItem_51 (by decide) (fun hc1 => ?_) (fun hc1 => ?_)
    · have hf := if_f hf hc1
      refine lv_aload_n hx hb dX6_readItem_56 rfl (lv_at hl 0 rfl) ?_
      obtain ⟨u1, hu1, hf⟩ := bd_some hf
      refine cl_vV (As := []) (rest := []) ⟨hx, hb, hml, hown, hts⟩ (c_X6_step l D cI cZ cR a_text a_text_letters a_draft text_length text_leastTold_50 text_shelfTold_50 text_place_50 text_token_50 text_start_50 text_number_50 text_letters  u1 hu1) (cw_X6_readItem_X6_step_39 hts) hE hP hD hS hA [0, 2] rfl rfl [a_text, a_text_letters] rfl rfl 0 6 rfl rfl rfl hl.1 rfl (Nat.le_of_ble_eq_true rfl) dX6_readItem_57 ⟨Nat.zero_le _, Nat.zero_le _⟩ (fun H locs hP hD hS => ?_)
      have hPD : PD D A [(a_text, .inr (6, [.ref a_text_letters, .int text_length, .ref a_draft, .int text_leastTold_50, .int text_shelfTold_50, .int u1.1, .int u1.2.1, .int u1.2.2.1, .int u1.2.2.2])), (a_draft, .inr (2, [.int draft_pans_50, .int draft_least_50, .int draft_shelf_50, .ref a_draft_years, .ref a_draft_spoons, .ref a_draft_shrinks, .ref a_draft_sorts, .ref a_draft_byAge])), (a_text_letters, .inl (cI, 200, .inl text_letters)), (a_draft_years, .inl (cI, 7, .inl draft_years_50)), (a_draft_spoons, .inl (cI, 7, .inl draft_spoons_50)), (a_draft_shrinks, .inl (cI, 7, .inl draft_shrinks_50)), (a_draft_sorts, .inl (cI, 7, .inl draft_sorts_50)), (a_draft_byAge, .inl (cI, 7, .inl draft_byAge_50))] H := ⟨hP, hD⟩
      obtain ⟨hP, hD⟩ := hPD
      refine lv_aload_n hx hb dX6_readItem_60 rfl (lv_at hl 0 rfl) ?_
      refine va_get (D := D) (ci := 6) (v := .int u1.2.1) (C := RX6) (T := TX6) (N := 9) hx hb hts hiX6_readItem_6 hown hE.1 hP 0 rfl rfl 6 (by decide) fL42 (fun _ h9 => h9) rfl dX6_readItem_61 ?_
      refine lv_bipush (v := 59) hx hb dX6_readItem_64 (by decide) ?_
      refine lv_icmp_ne (tgt := 73) hx hb dX6_readItem_66 (by decide) (fun hc2 => ?_) (fun hc2 => ?_)
      · have hf := if_f hf hc2
        refine lv_iconst (v := 0) hx hb dX6_readItem_73 (by decide) ?_
        have he := Option.some.inj hf
        subst he
        exact hret _ _ _ _ dX6_readItem_74 bn0 hP hD hS
      · have hf := if_t hf hc2
        refine lv_iconst (v := 1) hx hb dX6_readItem_69 (by decide) ?_
        refine lv_goto (tgt := 74) hx hb dX6_readItem_70 (by decide) ?_
        have he := Option.some.inj hf
        subst he
        exact hret _ _ _ _ dX6_readItem_74 bn1 hP hD hS
    · have hf := if_t hf hc1
      refine lv_iconst (v := 0) hx hb dX6_readItem_54 (by decide) ?_
      have he := Option.some.inj hf
      subst he
      exact hret _ _ _ _ dX6_readItem_55 bn0 hP hD hS
  refine lv_iconst (v := 0) hx hb dX6_readItem_0 (by decide) ?_
  refine lv_istore_n (lv' := [(1, .int 0), (0, .ref a_text)]) hx hb dX6_readItem_1 rfl hl (by decide) rfl (fun ls hl => ?_)
  refine lv_aload_n hx hb dX6_readItem_2 rfl (lv_at hl 1 rfl) ?_
  refine va_get (D := D) (ci := 6) (v := .int text_token) (C := RX6) (T := TX6) (N := 9) hx hb hts hiX6_readItem_6 hown hE.1 hP 0 rfl rfl 6 (by decide) fL42 (fun _ h9 => h9) rfl dX6_readItem_3 ?_
  refine lv_bipush (v := 112) hx hb dX6_readItem_6 (by decide) ?_
  refine lv_icmp_ne (tgt := 19) hx hb dX6_readItem_8 (by decide) (fun hc3 => ?_) (fun hc3 => ?_)
  · have hf := if_f hf hc3
    refine lv_aload_n hx hb dX6_readItem_19 rfl (lv_at hl 1 rfl) ?_
    refine va_get (D := D) (ci := 6) (v := .int text_token) (C := RX6) (T := TX6) (N := 9) hx hb hts hiX6_readItem_6 hown hE.1 hP 0 rfl rfl 6 (by decide) fL42 (fun _ h9 => h9) rfl dX6_readItem_20 ?_
    refine lv_bipush (v := 108) hx hb dX6_readItem_23 (by decide) ?_
    refine lv_icmp_ne (tgt := 36) hx hb dX6_readItem_25 (by decide) (fun hc4 => ?_) (fun hc4 => ?_)
    · have hf := if_f hf hc4
      refine lv_aload_n hx hb dX6_readItem_36 rfl (lv_at hl 1 rfl) ?_
      refine va_get (D := D) (ci := 6) (v := .int text_token) (C := RX6) (T := TX6) (N := 9) hx hb hts hiX6_readItem_6 hown hE.1 hP 0 rfl rfl 6 (by decide) fL42 (fun _ h9 => h9) rfl dX6_readItem_37 ?_
      refine lv_bipush (v := 115) hx hb dX6_readItem_40 (by decide) ?_
      refine lv_icmp_ne (tgt := 50) hx hb dX6_readItem_42 (by decide) (fun hc5 => ?_) (fun hc5 => ?_)
      · have hf := if_f hf hc5
        exact J50 0 text_leastTold text_shelfTold text_place text_token text_start text_number draft_pans draft_least draft_shelf draft_years draft_spoons draft_shrinks draft_sorts draft_byAge hf _ _ _ ⟨hP, hD⟩ hS (lv_sub hl [1, 0] rfl)
      · have hf := if_t hf hc5
        refine lv_aload_n hx hb dX6_readItem_45 rfl (lv_at hl 1 rfl) ?_
        obtain ⟨u2, hu2, hf⟩ := bd_some hf
        refine cl_iV (As := []) (rest := []) ⟨hx, hb, hml, hown, hts⟩ (c_X6_readShelf l D cI cZ cR a_text a_text_letters a_draft a_draft_years a_draft_spoons a_draft_shrinks a_draft_sorts a_draft_byAge text_length text_leastTold text_shelfTold text_place text_token text_start text_number text_letters draft_pans draft_least draft_shelf  u2 hu2) (cw_X6_readItem_X6_readShelf_58 hts) hE hP hD hS hA [0, 2, 1] rfl rfl [a_text, a_text_letters, a_draft] rfl rfl 0 6 rfl rfl rfl hl.1 rfl (Nat.le_of_ble_eq_true rfl) dX6_readItem_46 ⟨Nat.zero_le _, Nat.zero_le _⟩ (fun H locs hP hD hS => ?_)
        have hPD : PD D A [(a_text, .inr (6, [.ref a_text_letters, .int text_length, .ref a_draft, .int text_leastTold, .int u2.2.1, .int u2.2.2.1, .int u2.2.2.2.1, .int u2.2.2.2.2.1, .int u2.2.2.2.2.2.1])), (a_draft, .inr (2, [.int draft_pans, .int draft_least, .int u2.2.2.2.2.2.2, .ref a_draft_years, .ref a_draft_spoons, .ref a_draft_shrinks, .ref a_draft_sorts, .ref a_draft_byAge])), (a_text_letters, .inl (cI, 200, .inl text_letters)), (a_draft_years, .inl (cI, 7, .inl draft_years)), (a_draft_spoons, .inl (cI, 7, .inl draft_spoons)), (a_draft_shrinks, .inl (cI, 7, .inl draft_shrinks)), (a_draft_sorts, .inl (cI, 7, .inl draft_sorts)), (a_draft_byAge, .inl (cI, 7, .inl draft_byAge))] H := ⟨hP, hD⟩
        obtain ⟨hP, hD⟩ := hPD
        refine lv_istore_n (lv' := [(1, .int u2.1), (0, .ref a_text)]) hx hb dX6_readItem_49 rfl hl (by decide) rfl (fun ls hl => ?_)
        exact J50 u2.1 text_leastTold u2.2.1 u2.2.2.1 u2.2.2.2.1 u2.2.2.2.2.1 u2.2.2.2.2.2.1 draft_pans draft_least u2.2.2.2.2.2.2 draft_years draft_spoons draft_shrinks draft_sorts draft_byAge hf _ _ _ ⟨hP, hD⟩ hS (lv_sub hl [1, 0] rfl)
    · have hf := if_t hf hc4
      refine lv_aload_n hx hb dX6_readItem_28 rfl (lv_at hl 1 rfl) ?_
      obtain ⟨u3, hu3, hf⟩ := bd_some hf
      refine cl_iV (As := []) (rest := []) ⟨hx, hb, hml, hown, hts⟩ (c_X6_readLeast l D cI cZ cR a_text a_text_letters a_draft a_draft_years a_draft_spoons a_draft_shrinks a_draft_sorts a_draft_byAge text_length text_leastTold text_shelfTold text_place text_token text_start text_number text_letters draft_pans draft_least draft_shelf  u3 hu3) (cw_X6_readItem_X6_readLeast_55 hts) hE hP hD hS hA [0, 2, 1] rfl rfl [a_text, a_text_letters, a_draft] rfl rfl 0 6 rfl rfl rfl hl.1 rfl (Nat.le_of_ble_eq_true rfl) dX6_readItem_29 ⟨Nat.zero_le _, Nat.zero_le _⟩ (fun H locs hP hD hS => ?_)
      have hPD : PD D A [(a_text, .inr (6, [.ref a_text_letters, .int text_length, .ref a_draft, .int u3.2.1, .int text_shelfTold, .int u3.2.2.1, .int u3.2.2.2.1, .int u3.2.2.2.2.1, .int u3.2.2.2.2.2.1])), (a_draft, .inr (2, [.int draft_pans, .int u3.2.2.2.2.2.2, .int draft_shelf, .ref a_draft_years, .ref a_draft_spoons, .ref a_draft_shrinks, .ref a_draft_sorts, .ref a_draft_byAge])), (a_text_letters, .inl (cI, 200, .inl text_letters)), (a_draft_years, .inl (cI, 7, .inl draft_years)), (a_draft_spoons, .inl (cI, 7, .inl draft_spoons)), (a_draft_shrinks, .inl (cI, 7, .inl draft_shrinks)), (a_draft_sorts, .inl (cI, 7, .inl draft_sorts)), (a_draft_byAge, .inl (cI, 7, .inl draft_byAge))] H := ⟨hP, hD⟩
      obtain ⟨hP, hD⟩ := hPD
      refine lv_istore_n (lv' := [(1, .int u3.1), (0, .ref a_text)]) hx hb dX6_readItem_32 rfl hl (by decide) rfl (fun ls hl => ?_)
      refine lv_goto (tgt := 50) hx hb dX6_readItem_33 (by decide) ?_
      exact J50 u3.1 u3.2.1 text_shelfTold u3.2.2.1 u3.2.2.2.1 u3.2.2.2.2.1 u3.2.2.2.2.2.1 draft_pans u3.2.2.2.2.2.2 draft_shelf draft_years draft_spoons draft_shrinks draft_sorts draft_byAge hf _ _ _ ⟨hP, hD⟩ hS (lv_sub hl [1, 0] rfl)
  · have hf := if_t hf hc3
    refine lv_aload_n hx hb dX6_readItem_11 rfl (lv_at hl 1 rfl) ?_
    obtain ⟨u4, hu4, hf⟩ := bd_some hf
    refine cl_iV (As := []) (rest := []) ⟨hx, hb, hml, hown, hts⟩ (c_X6_readPan l D cI cZ cR a_text a_draft a_text_letters a_draft_years a_draft_spoons a_draft_shrinks a_draft_sorts a_draft_byAge text_length text_leastTold text_shelfTold text_place text_token text_start text_number draft_pans draft_least draft_shelf text_letters draft_years draft_spoons draft_shrinks draft_sorts draft_byAge  u4 hu4) (cw_X6_readItem_X6_readPan_52 hts) hE hP hD hS hA [0, 1, 2, 3, 4, 5, 6, 7] rfl rfl [a_text, a_draft, a_text_letters, a_draft_years, a_draft_spoons, a_draft_shrinks, a_draft_sorts, a_draft_byAge] rfl rfl 0 6 rfl rfl rfl hl.1 rfl (Nat.le_of_ble_eq_true rfl) dX6_readItem_12 ⟨Nat.zero_le _, Nat.zero_le _⟩ (fun H locs hP hD hS => ?_)
    have hPD : PD D A [(a_text, .inr (6, [.ref a_text_letters, .int text_length, .ref a_draft, .int text_leastTold, .int text_shelfTold, .int u4.2.1, .int u4.2.2.1, .int u4.2.2.2.1, .int u4.2.2.2.2.1])), (a_draft, .inr (2, [.int u4.2.2.2.2.2.1, .int draft_least, .int draft_shelf, .ref a_draft_years, .ref a_draft_spoons, .ref a_draft_shrinks, .ref a_draft_sorts, .ref a_draft_byAge])), (a_text_letters, .inl (cI, 200, .inl text_letters)), (a_draft_years, .inl (cI, 7, .inl u4.2.2.2.2.2.2.1)), (a_draft_spoons, .inl (cI, 7, .inl u4.2.2.2.2.2.2.2.1)), (a_draft_shrinks, .inl (cI, 7, .inl u4.2.2.2.2.2.2.2.2.1)), (a_draft_sorts, .inl (cI, 7, .inl u4.2.2.2.2.2.2.2.2.2.1)), (a_draft_byAge, .inl (cI, 7, .inl u4.2.2.2.2.2.2.2.2.2.2))] H := ⟨hP, hD⟩
    obtain ⟨hP, hD⟩ := hPD
    refine lv_istore_n (lv' := [(1, .int u4.1), (0, .ref a_text)]) hx hb dX6_readItem_15 rfl hl (by decide) rfl (fun ls hl => ?_)
    refine lv_goto (tgt := 50) hx hb dX6_readItem_16 (by decide) ?_
    exact J50 u4.1 text_leastTold text_shelfTold u4.2.1 u4.2.2.1 u4.2.2.2.1 u4.2.2.2.2.1 u4.2.2.2.2.2.1 draft_least draft_shelf u4.2.2.2.2.2.2.1 u4.2.2.2.2.2.2.2.1 u4.2.2.2.2.2.2.2.2.1 u4.2.2.2.2.2.2.2.2.2.1 u4.2.2.2.2.2.2.2.2.2.2 hf _ _ _ ⟨hP, hD⟩ hS (lv_sub hl [1, 0] rfl)
abbrev rmX6_read : Room := { frames := 6, cells := 0, slots := 0, locals := 129 }
theorem hiX6_read_6 : ∀ w ∈ wsX60, w ∈ wsX6_read := fun w h => (goodIn_r (big := wsX6_read) wsX60 [61, 62, 63, 64, 65, 66, 67, 68, 69] rfl (by decide +kernel) w h).1
theorem cw_X6_read_X6_step_39 {s : State} {args : Array Value} (hts : ∀ x ∈ wsX6_read, x.before args s = true) : CallW rmX6_read s args RX6 RX6 39 yX6_step cX6_step 1 none wsX6_step rmX6_step 0 0 0 := cwV 0 hts gX6_read_X6_step rfl rfl rfl (by decide +kernel) ⟨Nat.le_of_ble_eq_true rfl, Nat.le_of_ble_eq_true rfl⟩
theorem cw_X6_read_X6_readItem_45 {s : State} {args : Array Value} (hts : ∀ x ∈ wsX6_read, x.before args s = true) : CallW rmX6_read s args RX6 RX6 45 yX6_readItem cX6_readItem 2 (some .boolean) wsX6_readItem rmX6_readItem 0 0 0 := cwV 0 hts gX6_read_X6_readItem rfl rfl rfl (by decide +kernel) ⟨Nat.le_of_ble_eq_true rfl, Nat.le_of_ble_eq_true rfl⟩
theorem cw_X6_read_X2_empty_26 {s : State} {args : Array Value} {D : va_G} {cI cZ cR : ClassId} (hE : EV D cI cZ cR s) (hts : ∀ x ∈ wsX6_read, x.before args s = true) : va_CN rmX6_read s args RX6 26 yX2_empty "RainShelves" cX2_empty 1 none wsX2_empty rmX2_empty 0 0 0 ∧ (Cond.instanceMethod yX2_empty).before args s = true ∧ (Cond.selects RX2 yX2_empty yX2_empty).before args s = true := ⟨va_cnB 0 hts gX6_read_X2_empty_n26 rfl rfl rfl (hE.nm 11 rfl) (hts (.initialized RX2) (List.mem_of_getElem? (i := 8) rfl)) (by decide +kernel) ⟨Nat.le_of_ble_eq_true rfl, Nat.le_of_ble_eq_true rfl⟩, hts (.instanceMethod yX2_empty) (List.mem_of_getElem? (i := 7) rfl), hts (.selects RX2 yX2_empty yX2_empty) (List.mem_of_getElem? (i := 9) rfl)⟩
set_option maxRecDepth 100000 in
set_option maxHeartbeats 4000000 in
theorem c_X6_read (l : Launch) (D : va_G) (cI cZ cR : ClassId) (a_text : Nat) (a_draft : Nat) (a_text_letters : Nat) (a_draft_years : Nat) (a_draft_spoons : Nat) (a_draft_shrinks : Nat) (a_draft_sorts : Nat) (a_draft_byAge : Nat) (text_length : Int32) (text_leastTold : Int32) (text_shelfTold : Int32) (text_place : Int32) (text_token : Int32) (text_start : Int32) (text_number : Int32) (draft_pans : Int32) (draft_least : Int32) (draft_shelf : Int32) (text_letters : Nat → Int32) (draft_years : Nat → Int32) (draft_spoons : Nat → Int32) (draft_shrinks : Nat → Int32) (draft_sorts : Nat → Int32) (draft_byAge : Nat → Int32) (out : Int32 × Int32 × Int32 × Int32 × Int32 × Int32 × Int32 × Int32 × Int32 × Int32 × (Nat → Int32) × (Nat → Int32) × (Nat → Int32) × (Nat → Int32) × (Nat → Int32)) (hf : f_X6_read text_length text_token text_start text_number text_letters draft_years draft_spoons draft_shrinks draft_sorts draft_byAge = some out) : Ci l yX6_read wsX6_read rmX6_read D cI cZ cR [.ref a_text] [(a_text, .inr (6, [.ref a_text_letters, .int text_length, .ref a_draft, .int text_leastTold, .int text_shelfTold, .int text_place, .int text_token, .int text_start, .int text_number])), (a_draft, .inr (2, [.int draft_pans, .int draft_least, .int draft_shelf, .ref a_draft_years, .ref a_draft_spoons, .ref a_draft_shrinks, .ref a_draft_sorts, .ref a_draft_byAge])), (a_text_letters, .inl (cI, 200, .inl text_letters)), (a_draft_years, .inl (cI, 7, .inl draft_years)), (a_draft_spoons, .inl (cI, 7, .inl draft_spoons)), (a_draft_shrinks, .inl (cI, 7, .inl draft_shrinks)), (a_draft_sorts, .inl (cI, 7, .inl draft_sorts)), (a_draft_byAge, .inl (cI, 7, .inl draft_byAge))] out.1 [(a_text, .inr (6, [.ref a_text_letters, .int text_length, .ref a_draft, .int out.2.1, .int out.2.2.1, .int out.2.2.2.1, .int out.2.2.2.2.1, .int out.2.2.2.2.2.1, .int out.2.2.2.2.2.2.1])), (a_draft, .inr (2, [.int out.2.2.2.2.2.2.2.1, .int out.2.2.2.2.2.2.2.2.1, .int out.2.2.2.2.2.2.2.2.2.1, .ref a_draft_years, .ref a_draft_spoons, .ref a_draft_shrinks, .ref a_draft_sorts, .ref a_draft_byAge])), (a_text_letters, .inl (cI, 200, .inl text_letters)), (a_draft_years, .inl (cI, 7, .inl out.2.2.2.2.2.2.2.2.2.2.1)), (a_draft_spoons, .inl (cI, 7, .inl out.2.2.2.2.2.2.2.2.2.2.2.1)), (a_draft_shrinks, .inl (cI, 7, .inl out.2.2.2.2.2.2.2.2.2.2.2.2.1)), (a_draft_sorts, .inl (cI, 7, .inl out.2.2.2.2.2.2.2.2.2.2.2.2.2.1)), (a_draft_byAge, .inl (cI, 7, .inl out.2.2.2.2.2.2.2.2.2.2.2.2.2.2))] := by
  refine ent_i (cc := cX6_read) (maxL := 2) .int (by decide) rfl (Nat.le_of_ble_eq_true rfl) ?_
  intro p e s m below meth c A Q hx hb hml hown hts hE hA hP hD hS hret ls hl
  have hown : s.vm.findClass RX6 = some m.cls := hown
  have hl : lv_has ls 2 [(0, .ref a_text)] := hl
  have fL18 := hts (.fieldLink RX6 18 "RainShelves$Text" "draft" "LRainShelves$House;") (List.mem_of_getElem? (i := 1) rfl)
  have fL29 := hts (.fieldLink RX6 29 "RainShelves$Text" "leastTold" "Z") (List.mem_of_getElem? (i := 2) rfl)
  have fL33 := hts (.fieldLink RX6 33 "RainShelves$Text" "shelfTold" "Z") (List.mem_of_getElem? (i := 3) rfl)
  have fL36 := hts (.fieldLink RX6 36 "RainShelves$Text" "place" "I") (List.mem_of_getElem? (i := 4) rfl)
  have fL42 := hts (.fieldLink RX6 42 "RainShelves$Text" "token" "I") (List.mem_of_getElem? (i := 5) rfl)
  have fL49 := hts (.fieldLink RX6 49 "RainShelves$Text" "start" "I") (List.mem_of_getElem? (i := 6) rfl)
  unfold f_X6_read at hf
  have L24 : ∀ (n24 : Nat) (v1_24 : Int32) (text_leastTold_24 : Int32) (text_shelfTold_24 : Int32) (text_place_24 : Int32) (text_token_24 : Int32) (text_start_24 : Int32) (text_number_24 : Int32) (draft_pans_24 : Int32) (draft_least_24 : Int32) (draft_shelf_24 : Int32) (draft_years_24 : Nat → Int32) (draft_spoons_24 : Nat → Int32) (draft_shrinks_24 : Nat → Int32) (draft_sorts_24 : Nat → Int32) (draft_byAge_24 : Nat → Int32), f_X6_read_L24 text_length text_letters n24 v1_24 text_leastTold_24 text_shelfTold_24 text_place_24 text_token_24 text_start_24 text_number_24 draft_pans_24 draft_least_24 draft_shelf_24 draft_years_24 draft_spoons_24 draft_shrinks_24 draft_sorts_24 draft_byAge_24 = some out → ∀ (H : Heap) (locs : List Loc) (ls : Array Slot), PD D A [(a_text, .inr (6, [.ref a_text_letters, .int text_length, .ref a_draft, .int text_leastTold_24, .int text_shelfTold_24, .int text_place_24, .int text_token_24, .int text_start_24, .int text_number_24])), (a_draft, .inr (2, [.int draft_pans_24, .int draft_least_24, .int draft_shelf_24, .ref a_draft_years, .ref a_draft_spoons, .ref a_draft_shrinks, .ref a_draft_sorts, .ref a_draft_byAge])), (a_text_letters, .inl (cI, 200, .inl text_letters)), (a_draft_years, .inl (cI, 7, .inl draft_years_24)), (a_draft_spoons, .inl (cI, 7, .inl draft_spoons_24)), (a_draft_shrinks, .inl (cI, 7, .inl draft_shrinks_24)), (a_draft_sorts, .inl (cI, 7, .inl draft_sorts_24)), (a_draft_byAge, .inl (cI, 7, .inl draft_byAge_24))] H → va_S A s.heap H locs → lv_has ls 2 [(0, .ref a_text), (1, .int v1_24)] → W p l e rmX6_read s m ([.ref a_text] : List Value).toArray below meth c H locs 0 0 Q (F0 m 24 ls []) := by
    intro  n24
    induction n24 with
    | zero => intro v1_24 text_leastTold_24 text_shelfTold_24 text_place_24 text_token_24 text_start_24 text_number_24 draft_pans_24 draft_least_24 draft_shelf_24 draft_years_24 draft_spoons_24 draft_shrinks_24 draft_sorts_24 draft_byAge_24 hf; cases hf
    | succ n24 ih24 =>
      intro v1_24 text_leastTold_24 text_shelfTold_24 text_place_24 text_token_24 text_start_24 text_number_24 draft_pans_24 draft_least_24 draft_shelf_24 draft_years_24 draft_spoons_24 draft_shrinks_24 draft_sorts_24 draft_byAge_24 hf H locs ls hPD hS hl
      obtain ⟨hP, hD⟩ := hPD
      have hf : f_X6_read_B24 text_length text_letters (f_X6_read_L24 text_length text_letters n24) v1_24 text_leastTold_24 text_shelfTold_24 text_place_24 text_token_24 text_start_24 text_number_24 draft_pans_24 draft_least_24 draft_shelf_24 draft_years_24 draft_spoons_24 draft_shrinks_24 draft_sorts_24 draft_byAge_24 = some out := hf
      unfold f_X6_read_B24 at hf
      refine lv_iload_n hx hb dX6_read_24 rfl (lv_at hl 1 rfl) ?_
      refine lv_bipush (v := 9) hx hb dX6_read_25 (by decide) ?_
      refine lv_icmp_gt (tgt := 62) hx hb dX6_read_27 (by decide) (fun hc1 => ?_) (fun hc1 => ?_)
      · have hf := if_t hf hc1
        refine lv_bipush (v := (-10)) hx hb dX6_read_62 (by decide) ?_
        refine lv_aload_n hx hb dX6_read_64 rfl (lv_at hl 0 rfl) ?_
        refine va_get (D := D) (ci := 6) (v := .int text_start_24) (C := RX6) (T := TX6) (N := 9) hx hb hts hiX6_read_6 hown hE.1 hP 0 rfl rfl 7 (by decide) fL49 (fun _ h9 => h9) rfl dX6_read_65 ?_
        refine lv_isub hx hb dX6_read_68 ?_
        have he := Option.some.inj hf
        subst he
        exact hret _ _ _ _ dX6_read_69 rfl hP hD hS
      · have hf := if_f hf hc1
        refine lv_aload_n hx hb dX6_read_30 rfl (lv_at hl 0 rfl) ?_
        obtain ⟨u1, hu1, hf⟩ := bd_some hf
        refine cl_vV (As := []) (rest := []) ⟨hx, hb, hml, hown, hts⟩ (c_X6_step l D cI cZ cR a_text a_text_letters a_draft text_length text_leastTold_24 text_shelfTold_24 text_place_24 text_token_24 text_start_24 text_number_24 text_letters  u1 hu1) (cw_X6_read_X6_step_39 hts) hE hP hD hS hA [0, 2] rfl rfl [a_text, a_text_letters] rfl rfl 0 6 rfl rfl rfl hl.1 rfl (Nat.le_of_ble_eq_true rfl) dX6_read_31 ⟨Nat.zero_le _, Nat.zero_le _⟩ (fun H locs hP hD hS => ?_)
        have hPD : PD D A [(a_text, .inr (6, [.ref a_text_letters, .int text_length, .ref a_draft, .int text_leastTold_24, .int text_shelfTold_24, .int u1.1, .int u1.2.1, .int u1.2.2.1, .int u1.2.2.2])), (a_draft, .inr (2, [.int draft_pans_24, .int draft_least_24, .int draft_shelf_24, .ref a_draft_years, .ref a_draft_spoons, .ref a_draft_shrinks, .ref a_draft_sorts, .ref a_draft_byAge])), (a_text_letters, .inl (cI, 200, .inl text_letters)), (a_draft_years, .inl (cI, 7, .inl draft_years_24)), (a_draft_spoons, .inl (cI, 7, .inl draft_spoons_24)), (a_draft_shrinks, .inl (cI, 7, .inl draft_shrinks_24)), (a_draft_sorts, .inl (cI, 7, .inl draft_sorts_24)), (a_draft_byAge, .inl (cI, 7, .inl draft_byAge_24))] H := ⟨hP, hD⟩
        obtain ⟨hP, hD⟩ := hPD
        refine lv_aload_n hx hb dX6_read_34 rfl (lv_at hl 0 rfl) ?_
        refine va_get (D := D) (ci := 6) (v := .int u1.2.1) (C := RX6) (T := TX6) (N := 9) hx hb hts hiX6_read_6 hown hE.1 hP 0 rfl rfl 6 (by decide) fL42 (fun _ h9 => h9) rfl dX6_read_35 ?_
        refine lv_sipush (v := 257) hx hb dX6_read_38 (by decide) ?_
        refine lv_icmp_ne (tgt := 46) hx hb dX6_read_41 (by decide) (fun hc2 => ?_) (fun hc2 => ?_)
        · have hf := if_f hf hc2
          refine lv_aload_n hx hb dX6_read_46 rfl (lv_at hl 0 rfl) ?_
          obtain ⟨u2, hu2, hf⟩ := bd_some hf
          refine cl_iV (As := []) (rest := []) ⟨hx, hb, hml, hown, hts⟩ (c_X6_readItem l D cI cZ cR a_text a_draft a_text_letters a_draft_years a_draft_spoons a_draft_shrinks a_draft_sorts a_draft_byAge text_length text_leastTold_24 text_shelfTold_24 u1.1 u1.2.1 u1.2.2.1 u1.2.2.2 draft_pans_24 draft_least_24 draft_shelf_24 text_letters draft_years_24 draft_spoons_24 draft_shrinks_24 draft_sorts_24 draft_byAge_24  u2 hu2) (cw_X6_read_X6_readItem_45 hts) hE hP hD hS hA [0, 1, 2, 3, 4, 5, 6, 7] rfl rfl [a_text, a_draft, a_text_letters, a_draft_years, a_draft_spoons, a_draft_shrinks, a_draft_sorts, a_draft_byAge] rfl rfl 0 6 rfl rfl rfl hl.1 rfl (Nat.le_of_ble_eq_true rfl) dX6_read_47 ⟨Nat.zero_le _, Nat.zero_le _⟩ (fun H locs hP hD hS => ?_)
          have hPD : PD D A [(a_text, .inr (6, [.ref a_text_letters, .int text_length, .ref a_draft, .int u2.2.1, .int u2.2.2.1, .int u2.2.2.2.1, .int u2.2.2.2.2.1, .int u2.2.2.2.2.2.1, .int u2.2.2.2.2.2.2.1])), (a_draft, .inr (2, [.int u2.2.2.2.2.2.2.2.1, .int u2.2.2.2.2.2.2.2.2.1, .int u2.2.2.2.2.2.2.2.2.2.1, .ref a_draft_years, .ref a_draft_spoons, .ref a_draft_shrinks, .ref a_draft_sorts, .ref a_draft_byAge])), (a_text_letters, .inl (cI, 200, .inl text_letters)), (a_draft_years, .inl (cI, 7, .inl u2.2.2.2.2.2.2.2.2.2.2.1)), (a_draft_spoons, .inl (cI, 7, .inl u2.2.2.2.2.2.2.2.2.2.2.2.1)), (a_draft_shrinks, .inl (cI, 7, .inl u2.2.2.2.2.2.2.2.2.2.2.2.2.1)), (a_draft_sorts, .inl (cI, 7, .inl u2.2.2.2.2.2.2.2.2.2.2.2.2.2.1)), (a_draft_byAge, .inl (cI, 7, .inl u2.2.2.2.2.2.2.2.2.2.2.2.2.2.2))] H := ⟨hP, hD⟩
          obtain ⟨hP, hD⟩ := hPD
          refine lv_if_ne (tgt := 56) hx hb dX6_read_50 (by decide) (fun hc3 => ?_) (fun hc3 => ?_)
          · have hf := if_f hf hc3
            refine lv_iinc (v := (v1_24 + 1)) (lv' := [(1, .int (v1_24 + 1)), (0, .ref a_text)]) hx hb dX6_read_56 hl (k := 1) rfl (ii_p1 _) (by decide) rfl (fun ls hl => ?_)
            refine lv_goto (tgt := 24) hx hb dX6_read_59 (by decide) ?_
            exact ih24 (v1_24 + 1) u2.2.1 u2.2.2.1 u2.2.2.2.1 u2.2.2.2.2.1 u2.2.2.2.2.2.1 u2.2.2.2.2.2.2.1 u2.2.2.2.2.2.2.2.1 u2.2.2.2.2.2.2.2.2.1 u2.2.2.2.2.2.2.2.2.2.1 u2.2.2.2.2.2.2.2.2.2.2.1 u2.2.2.2.2.2.2.2.2.2.2.2.1 u2.2.2.2.2.2.2.2.2.2.2.2.2.1 u2.2.2.2.2.2.2.2.2.2.2.2.2.2.1 u2.2.2.2.2.2.2.2.2.2.2.2.2.2.2 hf _ _ _ ⟨hP, hD⟩ hS (lv_sub hl [1, 0] rfl)
          · have hf := if_t hf hc3
            refine lv_goto (tgt := 62) hx hb dX6_read_53 (by decide) ?_
            refine lv_bipush (v := (-10)) hx hb dX6_read_62 (by decide) ?_
            refine lv_aload_n hx hb dX6_read_64 rfl (lv_at hl 0 rfl) ?_
            refine va_get (D := D) (ci := 6) (v := .int u2.2.2.2.2.2.1) (C := RX6) (T := TX6) (N := 9) hx hb hts hiX6_read_6 hown hE.1 hP 0 rfl rfl 7 (by decide) fL49 (fun _ h9 => h9) rfl dX6_read_65 ?_
            refine lv_isub hx hb dX6_read_68 ?_
            have he := Option.some.inj hf
            subst he
            exact hret _ _ _ _ dX6_read_69 rfl hP hD hS
        · have hf := if_t hf hc2
          refine lv_iload_n hx hb dX6_read_44 rfl (lv_at hl 1 rfl) ?_
          have he := Option.some.inj hf
          subst he
          exact hret _ _ _ _ dX6_read_45 rfl hP hD hS
  refine lv_aload_n hx hb dX6_read_0 rfl (lv_at hl 0 rfl) ?_
  refine va_get (D := D) (ci := 6) (v := .ref a_draft) (C := RX6) (T := TX6) (N := 9) hx hb hts hiX6_read_6 hown hE.1 hP 0 rfl rfl 2 (by decide) fL18 (fun _ h9 => h9) rfl dX6_read_1 ?_
  obtain ⟨u3, hu3, hf⟩ := bd_some hf
  refine cl_vN (As := []) (rest := []) ⟨hx, hb, hml, hown, hts⟩ (c_X2_empty l D cI cZ cR a_draft a_draft_years a_draft_spoons a_draft_shrinks a_draft_sorts a_draft_byAge draft_pans draft_least draft_shelf  u3 hu3) (cw_X6_read_X2_empty_26 hE hts) hE hP hD hS hA [1] rfl rfl [a_draft] rfl rfl 1 2 rfl rfl rfl hl.1 rfl (Nat.le_of_ble_eq_true rfl) dX6_read_4 ⟨Nat.zero_le _, Nat.zero_le _⟩ (fun H locs hP hD hS => ?_)
  have hPD : PD D A [(a_text, .inr (6, [.ref a_text_letters, .int text_length, .ref a_draft, .int text_leastTold, .int text_shelfTold, .int text_place, .int text_token, .int text_start, .int text_number])), (a_draft, .inr (2, [.int u3.1, .int u3.2.1, .int u3.2.2, .ref a_draft_years, .ref a_draft_spoons, .ref a_draft_shrinks, .ref a_draft_sorts, .ref a_draft_byAge])), (a_text_letters, .inl (cI, 200, .inl text_letters)), (a_draft_years, .inl (cI, 7, .inl draft_years)), (a_draft_spoons, .inl (cI, 7, .inl draft_spoons)), (a_draft_shrinks, .inl (cI, 7, .inl draft_shrinks)), (a_draft_sorts, .inl (cI, 7, .inl draft_sorts)), (a_draft_byAge, .inl (cI, 7, .inl draft_byAge))] H := ⟨hP, hD⟩
  obtain ⟨hP, hD⟩ := hPD
  refine lv_aload_n hx hb dX6_read_7 rfl (lv_at hl 0 rfl) ?_
  refine lv_iconst (v := 0) hx hb dX6_read_8 (by decide) ?_
  refine va_put (D := D) (ci := 6) (v := .int 0) (ty := .boolean) (C := RX6) (T := TX6) (N := 9) hx hb hts hiX6_read_6 tyX6 tyX6_ok nmX6 hown hE.1 hP hD hS 0 rfl rfl 3 (by decide) fL29 (fun _ h9 => h9) rfl (tyX6_ok 3 (by decide)) rfl rfl (Nat.le_of_ble_eq_true rfl) dX6_read_9 (fun H locs hP hD hS => ?_)
  have hPD : PD D A [(a_text, .inr (6, [.ref a_text_letters, .int text_length, .ref a_draft, .int 0, .int text_shelfTold, .int text_place, .int text_token, .int text_start, .int text_number])), (a_draft, .inr (2, [.int u3.1, .int u3.2.1, .int u3.2.2, .ref a_draft_years, .ref a_draft_spoons, .ref a_draft_shrinks, .ref a_draft_sorts, .ref a_draft_byAge])), (a_text_letters, .inl (cI, 200, .inl text_letters)), (a_draft_years, .inl (cI, 7, .inl draft_years)), (a_draft_spoons, .inl (cI, 7, .inl draft_spoons)), (a_draft_shrinks, .inl (cI, 7, .inl draft_shrinks)), (a_draft_sorts, .inl (cI, 7, .inl draft_sorts)), (a_draft_byAge, .inl (cI, 7, .inl draft_byAge))] H := ⟨hP, hD⟩
  obtain ⟨hP, hD⟩ := hPD
  refine lv_aload_n hx hb dX6_read_12 rfl (lv_at hl 0 rfl) ?_
  refine lv_iconst (v := 0) hx hb dX6_read_13 (by decide) ?_
  refine va_put (D := D) (ci := 6) (v := .int 0) (ty := .boolean) (C := RX6) (T := TX6) (N := 9) hx hb hts hiX6_read_6 tyX6 tyX6_ok nmX6 hown hE.1 hP hD hS 0 rfl rfl 4 (by decide) fL33 (fun _ h9 => h9) rfl (tyX6_ok 4 (by decide)) rfl rfl (Nat.le_of_ble_eq_true rfl) dX6_read_14 (fun H locs hP hD hS => ?_)
  have hPD : PD D A [(a_text, .inr (6, [.ref a_text_letters, .int text_length, .ref a_draft, .int 0, .int 0, .int text_place, .int text_token, .int text_start, .int text_number])), (a_draft, .inr (2, [.int u3.1, .int u3.2.1, .int u3.2.2, .ref a_draft_years, .ref a_draft_spoons, .ref a_draft_shrinks, .ref a_draft_sorts, .ref a_draft_byAge])), (a_text_letters, .inl (cI, 200, .inl text_letters)), (a_draft_years, .inl (cI, 7, .inl draft_years)), (a_draft_spoons, .inl (cI, 7, .inl draft_spoons)), (a_draft_shrinks, .inl (cI, 7, .inl draft_shrinks)), (a_draft_sorts, .inl (cI, 7, .inl draft_sorts)), (a_draft_byAge, .inl (cI, 7, .inl draft_byAge))] H := ⟨hP, hD⟩
  obtain ⟨hP, hD⟩ := hPD
  refine lv_aload_n hx hb dX6_read_17 rfl (lv_at hl 0 rfl) ?_
  refine lv_iconst (v := 0) hx hb dX6_read_18 (by decide) ?_
  refine va_put (D := D) (ci := 6) (v := .int 0) (ty := .int) (C := RX6) (T := TX6) (N := 9) hx hb hts hiX6_read_6 tyX6 tyX6_ok nmX6 hown hE.1 hP hD hS 0 rfl rfl 5 (by decide) fL36 (fun _ h9 => h9) rfl (tyX6_ok 5 (by decide)) rfl rfl (Nat.le_of_ble_eq_true rfl) dX6_read_19 (fun H locs hP hD hS => ?_)
  have hPD : PD D A [(a_text, .inr (6, [.ref a_text_letters, .int text_length, .ref a_draft, .int 0, .int 0, .int 0, .int text_token, .int text_start, .int text_number])), (a_draft, .inr (2, [.int u3.1, .int u3.2.1, .int u3.2.2, .ref a_draft_years, .ref a_draft_spoons, .ref a_draft_shrinks, .ref a_draft_sorts, .ref a_draft_byAge])), (a_text_letters, .inl (cI, 200, .inl text_letters)), (a_draft_years, .inl (cI, 7, .inl draft_years)), (a_draft_spoons, .inl (cI, 7, .inl draft_spoons)), (a_draft_shrinks, .inl (cI, 7, .inl draft_shrinks)), (a_draft_sorts, .inl (cI, 7, .inl draft_sorts)), (a_draft_byAge, .inl (cI, 7, .inl draft_byAge))] H := ⟨hP, hD⟩
  obtain ⟨hP, hD⟩ := hPD
  refine lv_iconst (v := 0) hx hb dX6_read_22 (by decide) ?_
  refine lv_istore_n (lv' := [(1, .int 0), (0, .ref a_text)]) hx hb dX6_read_23 rfl hl (by decide) rfl (fun ls hl => ?_)
  exact L24  FU 0 0 0 0 text_token text_start text_number u3.1 u3.2.1 u3.2.2 draft_years draft_spoons draft_shrinks draft_sorts draft_byAge hf _ _ _ ⟨hP, hD⟩ hS (lv_sub hl [1, 0] rfl)
