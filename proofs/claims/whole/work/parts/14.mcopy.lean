set_option maxHeartbeats 4000000 in
set_option maxRecDepth 100000 in
theorem c_X3_copy (l : Launch) (D : va_G) (Y : Nat → ClassId) (ad : MA) (t : MS) (a b : Nat) (sz : Nat)  (hab : a ≠ b) (h4 : a < 4 ∧ b < 4) (h5 : ∀ j, vp_nar .boolean (mI t 5 j) = mI t 5 j) (h9 : ∀ j, vp_nar .boolean (mI t 9 j) = mI t 9 j) : Met l yX3_copy wsX3_copy ({ frames := 0, cells := 0, slots := 0, locals := 0 }) (wrPc D Y [.ref (mO ad), .int (nI a), .int (nI b)] (mW Y ad t) sz) (va_Qv (fun (u : MS) => u = fCopy t a b) (wrB D (va_A (mW Y ad t) sz) (fun u : MS => mW Y ad u)) (va_A (mW Y ad t) sz)) (0) (0) (va_A (mW Y ad t) sz) := by
  refine wrOf (Qc := fun A => va_Qv (fun (u : MS) => u = fCopy t a b) (wrB D A (fun u : MS => mW Y ad u)) A) (cc := cX3_copy) (maxL := 4) (ret := none) (own := RX3) (by decide) rfl rfl (Nat.le_of_ble_eq_true rfl) ?_
  intro p e s m below meth c ls A hx hb hr hts hown hml hlocks hin hA hP hD hS hK hl
  have iwX3 : ∀ w ∈ u_ws RX3 TX3 19, w ∈ wsX3_copy := fun _ h => List.mem_cons_of_mem _ (List.mem_append_right _ h)
  have hl : lv_has ls 4 [(0, .ref (mO ad)), (1, .int (nI a)), (2, .int (nI b))] := hl
  have hS : va_S A s.heap s.heap [] := hS
  refine lv_iconst (v := 0) hx hb dX3_copy_0 (by decide) ?_
  refine lv_istore_n (lv' := [(3, .int 0), (0, .ref (mO ad)), (1, .int (nI a)), (2, .int (nI b))]) hx hb dX3_copy_1 rfl hl (by decide) rfl (fun ls hl => ?_)
  have LP1 : ∀ (n z : Nat) (T : MS) (H : Heap) (locs : List Loc) (ls : Array Slot), z + n = 100 → T = mCp1 t a b z → va_P D vwCl (mW Y ad T) H → va_D A (mW Y ad T) → va_S A s.heap H locs → lv_has ls 4 [(3, .int (nI z)), (0, .ref (mO ad)), (1, .int (nI a)), (2, .int (nI b))] → W p l e ({ frames := 0, cells := 0, slots := 0, locals := 0 }) s m ([.ref (mO ad), .int (nI a), .int (nI b)] : List Value).toArray below meth c H locs (0) (0) (MQ below (va_Qv (fun (u : MS) => u = fCopy t a b) (wrB D A (fun u : MS => mW Y ad u)) A) ([.ref (mO ad), .int (nI a), .int (nI b)] : List Value).toArray s (0) (0) A) (F0 m 2 ls []) := by
    intro n
    induction n with
    | zero =>
      intro z T H locs ls hz hT hP hD hS hl
      obtain rfl : z = 100 := by omega
      subst hT
      have c2 : (100 : Int32) ≤ nI 100 := by decide
      refine lv_iload_n hx hb dX3_copy_2 rfl (lv_at hl 0 rfl) ?_
      refine lv_bipush (v := 100) hx hb dX3_copy_3 (by decide) ?_
      refine lv_icmp_ge (tgt := 124) hx hb dX3_copy_5 (by decide) (fun _ => ?_) (fun c3 => absurd c2 c3)
      refine lv_iconst (v := 0) hx hb dX3_copy_124 (by decide) ?_
      refine lv_istore_n (lv' := [(3, .int 0), (0, .ref (mO ad)), (1, .int (nI a)), (2, .int (nI b))]) hx hb dX3_copy_125 rfl hl (by decide) rfl (fun ls hl => ?_)
      have LP4 : ∀ (n z : Nat) (T : MS) (H : Heap) (locs : List Loc) (ls : Array Slot), z + n = 3200 → T = mCp2 (mCp1 t a b 100) a b z → va_P D vwCl (mW Y ad T) H → va_D A (mW Y ad T) → va_S A s.heap H locs → lv_has ls 4 [(3, .int (nI z)), (0, .ref (mO ad)), (1, .int (nI a)), (2, .int (nI b))] → W p l e ({ frames := 0, cells := 0, slots := 0, locals := 0 }) s m ([.ref (mO ad), .int (nI a), .int (nI b)] : List Value).toArray below meth c H locs (0) (0) (MQ below (va_Qv (fun (u : MS) => u = fCopy t a b) (wrB D A (fun u : MS => mW Y ad u)) A) ([.ref (mO ad), .int (nI a), .int (nI b)] : List Value).toArray s (0) (0) A) (F0 m 126 ls []) := by
        intro n
        induction n with
        | zero =>
          intro z T H locs ls hz hT hP hD hS hl
          obtain rfl : z = 3200 := by omega
          subst hT
          have c5 : (3200 : Int32) ≤ nI 3200 := by decide
          refine lv_iload_n hx hb dX3_copy_126 rfl (lv_at hl 0 rfl) ?_
          refine lv_sipush (v := 3200) hx hb dX3_copy_127 (by decide) ?_
          refine lv_icmp_ge (tgt := 211) hx hb dX3_copy_130 (by decide) (fun _ => ?_) (fun c6 => absurd c5 c6)
          refine W.widen (k := 0) (n := 0) (by omega) (by omega) ?_
          exact weV (wf := fun u : MS => mW Y ad u) (mCp2 (mCp1 t a b 100) a b 3200) hx hb hr hlocks hP hD hS dX3_copy_211 (rfl)
        | succ n ih =>
          intro z T H locs ls hz hT hP hD hS hl
          have c7 : ¬ (3200 : Int32) ≤ nI z := ltN (N := 3200) (by omega) rfl (by omega)
          refine lv_iload_n hx hb dX3_copy_126 rfl (lv_at hl 0 rfl) ?_
          refine lv_sipush (v := 3200) hx hb dX3_copy_127 (by decide) ?_
          refine lv_icmp_ge (tgt := 211) hx hb dX3_copy_130 (by decide) (fun c8 => absurd c8 c7) (fun _ => ?_)
          refine lv_aload_n hx hb dX3_copy_133 rfl (lv_at hl 1 rfl) ?_
          refine va_get (D := D) (ci := 4) (v := .ref (mH ad 7)) (C := RX3) (T := TX3) (N := 19) hx hb hts iwX3 hown hK hP 0 rfl rfl 11 (by decide) (hts (.fieldLink RX3 40 "ObjectRowsModel" "elements" "[I") (by decide +kernel)) (fun _ h9 => h9) rfl dX3_copy_134 ?_
          refine lv_sipush (v := 3200) hx hb dX3_copy_137 (by decide) ?_
          refine lv_iload_n hx hb dX3_copy_140 rfl (lv_at hl 3 rfl) ?_
          refine lv_imul hx hb dX3_copy_141 ?_
          refine lv_iload_n hx hb dX3_copy_142 rfl (lv_at hl 0 rfl) ?_
          refine lv_iadd hx hb dX3_copy_143 ?_
          refine lv_aload_n hx hb dX3_copy_144 rfl (lv_at hl 1 rfl) ?_
          refine va_get (D := D) (ci := 4) (v := .ref (mH ad 7)) (C := RX3) (T := TX3) (N := 19) hx hb hts iwX3 hown hK hP 0 rfl rfl 11 (by decide) (hts (.fieldLink RX3 40 "ObjectRowsModel" "elements" "[I") (by decide +kernel)) (fun _ h9 => h9) rfl dX3_copy_145 ?_
          refine lv_sipush (v := 3200) hx hb dX3_copy_148 (by decide) ?_
          refine lv_iload_n hx hb dX3_copy_151 rfl (lv_at hl 2 rfl) ?_
          refine lv_imul hx hb dX3_copy_152 ?_
          refine lv_iload_n hx hb dX3_copy_153 rfl (lv_at hl 0 rfl) ?_
          refine lv_iadd hx hb dX3_copy_154 ?_
          refine va_iald hx hb hK hP 8 0 rfl rfl (ixI (w := 3200) (a := a) (z := z) (N := 12800) rfl rfl (by omega) (by omega)) dX3_copy_155 ?_
          refine lv_topi (fun y9 ey9 => ?_)
          obtain rfl : y9 = mI T 7 ((3200 * (nI a)) + (nI z)).toNatClampNeg := ey9
          refine mAst7 (ad := ad) hx hb hK hP hD hS (ixI (w := 3200) (a := b) (z := z) (N := 12800) rfl rfl (by omega) (by omega)) dX3_copy_156 (fun H locs hP hD hS => ?_)
          refine lv_aload_n hx hb dX3_copy_157 rfl (lv_at hl 1 rfl) ?_
          refine va_get (D := D) (ci := 4) (v := .ref (mH ad 11)) (C := RX3) (T := TX3) (N := 19) hx hb hts iwX3 hown hK hP 0 rfl rfl 15 (by decide) (hts (.fieldLink RX3 52 "ObjectRowsModel" "keys" "[J") (by decide +kernel)) (fun _ h9 => h9) rfl dX3_copy_158 ?_
          refine lv_sipush (v := 3200) hx hb dX3_copy_161 (by decide) ?_
          refine lv_iload_n hx hb dX3_copy_164 rfl (lv_at hl 3 rfl) ?_
          refine lv_imul hx hb dX3_copy_165 ?_
          refine lv_iload_n hx hb dX3_copy_166 rfl (lv_at hl 0 rfl) ?_
          refine lv_iadd hx hb dX3_copy_167 ?_
          refine lv_aload_n hx hb dX3_copy_168 rfl (lv_at hl 1 rfl) ?_
          refine va_get (D := D) (ci := 4) (v := .ref (mH ad 11)) (C := RX3) (T := TX3) (N := 19) hx hb hts iwX3 hown hK hP 0 rfl rfl 15 (by decide) (hts (.fieldLink RX3 52 "ObjectRowsModel" "keys" "[J") (by decide +kernel)) (fun _ h9 => h9) rfl dX3_copy_169 ?_
          refine lv_sipush (v := 3200) hx hb dX3_copy_172 (by decide) ?_
          refine lv_iload_n hx hb dX3_copy_175 rfl (lv_at hl 2 rfl) ?_
          refine lv_imul hx hb dX3_copy_176 ?_
          refine lv_iload_n hx hb dX3_copy_177 rfl (lv_at hl 0 rfl) ?_
          refine lv_iadd hx hb dX3_copy_178 ?_
          refine va_lald hx hb hK hP 12 3 rfl rfl (ixI (w := 3200) (a := a) (z := z) (N := 12800) rfl rfl (by omega) (by omega)) dX3_copy_179 ?_
          refine lv_topl (fun y10 ey10 => ?_)
          obtain rfl : y10 = mJ T ((3200 * (nI a)) + (nI z)).toNatClampNeg := ey10
          refine mAst11 (ad := ad) hx hb hK hP hD hS (ixI (w := 3200) (a := b) (z := z) (N := 12800) rfl rfl (by omega) (by omega)) dX3_copy_180 (fun H locs hP hD hS => ?_)
          refine lv_aload_n hx hb dX3_copy_181 rfl (lv_at hl 1 rfl) ?_
          refine va_get (D := D) (ci := 4) (v := .ref (mH ad 12)) (C := RX3) (T := TX3) (N := 19) hx hb hts iwX3 hown hK hP 0 rfl rfl 16 (by decide) (hts (.fieldLink RX3 56 "ObjectRowsModel" "values" "[I") (by decide +kernel)) (fun _ h9 => h9) rfl dX3_copy_182 ?_
          refine lv_sipush (v := 3200) hx hb dX3_copy_185 (by decide) ?_
          refine lv_iload_n hx hb dX3_copy_188 rfl (lv_at hl 3 rfl) ?_
          refine lv_imul hx hb dX3_copy_189 ?_
          refine lv_iload_n hx hb dX3_copy_190 rfl (lv_at hl 0 rfl) ?_
          refine lv_iadd hx hb dX3_copy_191 ?_
          refine lv_aload_n hx hb dX3_copy_192 rfl (lv_at hl 1 rfl) ?_
          refine va_get (D := D) (ci := 4) (v := .ref (mH ad 12)) (C := RX3) (T := TX3) (N := 19) hx hb hts iwX3 hown hK hP 0 rfl rfl 16 (by decide) (hts (.fieldLink RX3 56 "ObjectRowsModel" "values" "[I") (by decide +kernel)) (fun _ h9 => h9) rfl dX3_copy_193 ?_
          refine lv_sipush (v := 3200) hx hb dX3_copy_196 (by decide) ?_
          refine lv_iload_n hx hb dX3_copy_199 rfl (lv_at hl 2 rfl) ?_
          refine lv_imul hx hb dX3_copy_200 ?_
          refine lv_iload_n hx hb dX3_copy_201 rfl (lv_at hl 0 rfl) ?_
          refine lv_iadd hx hb dX3_copy_202 ?_
          refine va_iald hx hb hK hP 13 0 rfl rfl (ixI (w := 3200) (a := a) (z := z) (N := 12800) rfl rfl (by omega) (by omega)) dX3_copy_203 ?_
          refine lv_topi (fun y11 ey11 => ?_)
          obtain rfl : y11 = mI T 12 ((3200 * (nI a)) + (nI z)).toNatClampNeg := ey11
          refine mAst12 (ad := ad) hx hb hK hP hD hS (ixI (w := 3200) (a := b) (z := z) (N := 12800) rfl rfl (by omega) (by omega)) dX3_copy_204 (fun H locs hP hD hS => ?_)
          obtain ⟨z12, ez12⟩ : ∃ y : Int32, y = nI z + 1 := ⟨_, rfl⟩
          refine lv_iinc (v := z12) (lv' := [(3, .int z12), (0, .ref (mO ad)), (1, .int (nI a)), (2, .int (nI b))]) hx hb dX3_copy_205 hl (k := 0) rfl (by rw [ez12]; rfl) (by decide) rfl (fun ls hl => ?_)
          refine lv_goto (tgt := 126) hx hb dX3_copy_208 (by decide) ?_
          obtain rfl : z12 = nI (z + 1) := ez12.trans (nI_1 z)
          exact ih (z + 1) _ _ _ _ (by omega) (by subst hT; exact cp2S hab (by omega) h4) hP hD hS (lv_sub hl [0, 1, 2, 3] rfl)
      exact LP4 3200 0 _ _ _ _ (by omega) (cp2_0 _ _ _) hP hD hS (by first | exact lv_sub hl [0, 1, 2, 3] rfl | (rw [nI_0]; exact lv_sub hl [0, 1, 2, 3] rfl))
    | succ n ih =>
      intro z T H locs ls hz hT hP hD hS hl
      have c13 : ¬ (100 : Int32) ≤ nI z := ltN (N := 100) (by omega) rfl (by omega)
      refine lv_iload_n hx hb dX3_copy_2 rfl (lv_at hl 0 rfl) ?_
      refine lv_bipush (v := 100) hx hb dX3_copy_3 (by decide) ?_
      refine lv_icmp_ge (tgt := 124) hx hb dX3_copy_5 (by decide) (fun c14 => absurd c14 c13) (fun _ => ?_)
      refine lv_aload_n hx hb dX3_copy_8 rfl (lv_at hl 1 rfl) ?_
      refine va_get (D := D) (ci := 4) (v := .ref (mH ad 5)) (C := RX3) (T := TX3) (N := 19) hx hb hts iwX3 hown hK hP 0 rfl rfl 9 (by decide) (hts (.fieldLink RX3 33 "ObjectRowsModel" "executable" "[Z") (by decide +kernel)) (fun _ h9 => h9) rfl dX3_copy_9 ?_
      refine lv_bipush (v := 100) hx hb dX3_copy_12 (by decide) ?_
      refine lv_iload_n hx hb dX3_copy_14 rfl (lv_at hl 3 rfl) ?_
      refine lv_imul hx hb dX3_copy_15 ?_
      refine lv_iload_n hx hb dX3_copy_16 rfl (lv_at hl 0 rfl) ?_
      refine lv_iadd hx hb dX3_copy_17 ?_
      refine lv_aload_n hx hb dX3_copy_18 rfl (lv_at hl 1 rfl) ?_
      refine va_get (D := D) (ci := 4) (v := .ref (mH ad 5)) (C := RX3) (T := TX3) (N := 19) hx hb hts iwX3 hown hK hP 0 rfl rfl 9 (by decide) (hts (.fieldLink RX3 33 "ObjectRowsModel" "executable" "[Z") (by decide +kernel)) (fun _ h9 => h9) rfl dX3_copy_19 ?_
      refine lv_bipush (v := 100) hx hb dX3_copy_22 (by decide) ?_
      refine lv_iload_n hx hb dX3_copy_24 rfl (lv_at hl 2 rfl) ?_
      refine lv_imul hx hb dX3_copy_25 ?_
      refine lv_iload_n hx hb dX3_copy_26 rfl (lv_at hl 0 rfl) ?_
      refine lv_iadd hx hb dX3_copy_27 ?_
      refine va_zald hx hb hK hP 6 2 rfl rfl (ixI (w := 100) (a := a) (z := z) (N := 400) rfl rfl (by omega) (by omega)) dX3_copy_28 ?_
      refine lv_topi (fun y15 ey15 => ?_)
      obtain rfl : y15 = mI T 5 ((100 * (nI a)) + (nI z)).toNatClampNeg := ey15
      refine mAst5 (ad := ad) hx hb hK hP hD hS (ixI (w := 100) (a := b) (z := z) (N := 400) rfl rfl (by omega) (by omega)) dX3_copy_29 (fun H locs hP hD hS => ?_)
      refine lv_aload_n hx hb dX3_copy_30 rfl (lv_at hl 1 rfl) ?_
      refine va_get (D := D) (ci := 4) (v := .ref (mH ad 6)) (C := RX3) (T := TX3) (N := 19) hx hb hts iwX3 hown hK hP 0 rfl rfl 10 (by decide) (hts (.fieldLink RX3 37 "ObjectRowsModel" "access" "[I") (by decide +kernel)) (fun _ h9 => h9) rfl dX3_copy_31 ?_
      refine lv_bipush (v := 100) hx hb dX3_copy_34 (by decide) ?_
      refine lv_iload_n hx hb dX3_copy_36 rfl (lv_at hl 3 rfl) ?_
      refine lv_imul hx hb dX3_copy_37 ?_
      refine lv_iload_n hx hb dX3_copy_38 rfl (lv_at hl 0 rfl) ?_
      refine lv_iadd hx hb dX3_copy_39 ?_
      refine lv_aload_n hx hb dX3_copy_40 rfl (lv_at hl 1 rfl) ?_
      refine va_get (D := D) (ci := 4) (v := .ref (mH ad 6)) (C := RX3) (T := TX3) (N := 19) hx hb hts iwX3 hown hK hP 0 rfl rfl 10 (by decide) (hts (.fieldLink RX3 37 "ObjectRowsModel" "access" "[I") (by decide +kernel)) (fun _ h9 => h9) rfl dX3_copy_41 ?_
      refine lv_bipush (v := 100) hx hb dX3_copy_44 (by decide) ?_
      refine lv_iload_n hx hb dX3_copy_46 rfl (lv_at hl 2 rfl) ?_
      refine lv_imul hx hb dX3_copy_47 ?_
      refine lv_iload_n hx hb dX3_copy_48 rfl (lv_at hl 0 rfl) ?_
      refine lv_iadd hx hb dX3_copy_49 ?_
      refine va_iald hx hb hK hP 7 0 rfl rfl (ixI (w := 100) (a := a) (z := z) (N := 400) rfl rfl (by omega) (by omega)) dX3_copy_50 ?_
      refine lv_topi (fun y16 ey16 => ?_)
      obtain rfl : y16 = mI T 6 ((100 * (nI a)) + (nI z)).toNatClampNeg := ey16
      refine mAst6 (ad := ad) hx hb hK hP hD hS (ixI (w := 100) (a := b) (z := z) (N := 400) rfl rfl (by omega) (by omega)) dX3_copy_51 (fun H locs hP hD hS => ?_)
      refine lv_aload_n hx hb dX3_copy_52 rfl (lv_at hl 1 rfl) ?_
      refine va_get (D := D) (ci := 4) (v := .ref (mH ad 8)) (C := RX3) (T := TX3) (N := 19) hx hb hts iwX3 hown hK hP 0 rfl rfl 12 (by decide) (hts (.fieldLink RX3 43 "ObjectRowsModel" "capacities" "[I") (by decide +kernel)) (fun _ h9 => h9) rfl dX3_copy_53 ?_
      refine lv_bipush (v := 100) hx hb dX3_copy_56 (by decide) ?_
      refine lv_iload_n hx hb dX3_copy_58 rfl (lv_at hl 3 rfl) ?_
      refine lv_imul hx hb dX3_copy_59 ?_
      refine lv_iload_n hx hb dX3_copy_60 rfl (lv_at hl 0 rfl) ?_
      refine lv_iadd hx hb dX3_copy_61 ?_
      refine lv_aload_n hx hb dX3_copy_62 rfl (lv_at hl 1 rfl) ?_
      refine va_get (D := D) (ci := 4) (v := .ref (mH ad 8)) (C := RX3) (T := TX3) (N := 19) hx hb hts iwX3 hown hK hP 0 rfl rfl 12 (by decide) (hts (.fieldLink RX3 43 "ObjectRowsModel" "capacities" "[I") (by decide +kernel)) (fun _ h9 => h9) rfl dX3_copy_63 ?_
      refine lv_bipush (v := 100) hx hb dX3_copy_66 (by decide) ?_
      refine lv_iload_n hx hb dX3_copy_68 rfl (lv_at hl 2 rfl) ?_
      refine lv_imul hx hb dX3_copy_69 ?_
      refine lv_iload_n hx hb dX3_copy_70 rfl (lv_at hl 0 rfl) ?_
      refine lv_iadd hx hb dX3_copy_71 ?_
      refine va_iald hx hb hK hP 9 0 rfl rfl (ixI (w := 100) (a := a) (z := z) (N := 400) rfl rfl (by omega) (by omega)) dX3_copy_72 ?_
      refine lv_topi (fun y17 ey17 => ?_)
      obtain rfl : y17 = mI T 8 ((100 * (nI a)) + (nI z)).toNatClampNeg := ey17
      refine mAst8 (ad := ad) hx hb hK hP hD hS (ixI (w := 100) (a := b) (z := z) (N := 400) rfl rfl (by omega) (by omega)) dX3_copy_73 (fun H locs hP hD hS => ?_)
      refine lv_aload_n hx hb dX3_copy_74 rfl (lv_at hl 1 rfl) ?_
      refine va_get (D := D) (ci := 4) (v := .ref (mH ad 9)) (C := RX3) (T := TX3) (N := 19) hx hb hts iwX3 hown hK hP 0 rfl rfl 13 (by decide) (hts (.fieldLink RX3 46 "ObjectRowsModel" "grows" "[Z") (by decide +kernel)) (fun _ h9 => h9) rfl dX3_copy_75 ?_
      refine lv_bipush (v := 100) hx hb dX3_copy_78 (by decide) ?_
      refine lv_iload_n hx hb dX3_copy_80 rfl (lv_at hl 3 rfl) ?_
      refine lv_imul hx hb dX3_copy_81 ?_
      refine lv_iload_n hx hb dX3_copy_82 rfl (lv_at hl 0 rfl) ?_
      refine lv_iadd hx hb dX3_copy_83 ?_
      refine lv_aload_n hx hb dX3_copy_84 rfl (lv_at hl 1 rfl) ?_
      refine va_get (D := D) (ci := 4) (v := .ref (mH ad 9)) (C := RX3) (T := TX3) (N := 19) hx hb hts iwX3 hown hK hP 0 rfl rfl 13 (by decide) (hts (.fieldLink RX3 46 "ObjectRowsModel" "grows" "[Z") (by decide +kernel)) (fun _ h9 => h9) rfl dX3_copy_85 ?_
      refine lv_bipush (v := 100) hx hb dX3_copy_88 (by decide) ?_
      refine lv_iload_n hx hb dX3_copy_90 rfl (lv_at hl 2 rfl) ?_
      refine lv_imul hx hb dX3_copy_91 ?_
      refine lv_iload_n hx hb dX3_copy_92 rfl (lv_at hl 0 rfl) ?_
      refine lv_iadd hx hb dX3_copy_93 ?_
      refine va_zald hx hb hK hP 10 2 rfl rfl (ixI (w := 100) (a := a) (z := z) (N := 400) rfl rfl (by omega) (by omega)) dX3_copy_94 ?_
      refine lv_topi (fun y18 ey18 => ?_)
      obtain rfl : y18 = mI T 9 ((100 * (nI a)) + (nI z)).toNatClampNeg := ey18
      refine mAst9 (ad := ad) hx hb hK hP hD hS (ixI (w := 100) (a := b) (z := z) (N := 400) rfl rfl (by omega) (by omega)) dX3_copy_95 (fun H locs hP hD hS => ?_)
      refine lv_aload_n hx hb dX3_copy_96 rfl (lv_at hl 1 rfl) ?_
      refine va_get (D := D) (ci := 4) (v := .ref (mH ad 10)) (C := RX3) (T := TX3) (N := 19) hx hb hts iwX3 hown hK hP 0 rfl rfl 14 (by decide) (hts (.fieldLink RX3 49 "ObjectRowsModel" "entries" "[I") (by decide +kernel)) (fun _ h9 => h9) rfl dX3_copy_97 ?_
      refine lv_bipush (v := 100) hx hb dX3_copy_100 (by decide) ?_
      refine lv_iload_n hx hb dX3_copy_102 rfl (lv_at hl 3 rfl) ?_
      refine lv_imul hx hb dX3_copy_103 ?_
      refine lv_iload_n hx hb dX3_copy_104 rfl (lv_at hl 0 rfl) ?_
      refine lv_iadd hx hb dX3_copy_105 ?_
      refine lv_aload_n hx hb dX3_copy_106 rfl (lv_at hl 1 rfl) ?_
      refine va_get (D := D) (ci := 4) (v := .ref (mH ad 10)) (C := RX3) (T := TX3) (N := 19) hx hb hts iwX3 hown hK hP 0 rfl rfl 14 (by decide) (hts (.fieldLink RX3 49 "ObjectRowsModel" "entries" "[I") (by decide +kernel)) (fun _ h9 => h9) rfl dX3_copy_107 ?_
      refine lv_bipush (v := 100) hx hb dX3_copy_110 (by decide) ?_
      refine lv_iload_n hx hb dX3_copy_112 rfl (lv_at hl 2 rfl) ?_
      refine lv_imul hx hb dX3_copy_113 ?_
      refine lv_iload_n hx hb dX3_copy_114 rfl (lv_at hl 0 rfl) ?_
      refine lv_iadd hx hb dX3_copy_115 ?_
      refine va_iald hx hb hK hP 11 0 rfl rfl (ixI (w := 100) (a := a) (z := z) (N := 400) rfl rfl (by omega) (by omega)) dX3_copy_116 ?_
      refine lv_topi (fun y19 ey19 => ?_)
      obtain rfl : y19 = mI T 10 ((100 * (nI a)) + (nI z)).toNatClampNeg := ey19
      refine mAst10 (ad := ad) hx hb hK hP hD hS (ixI (w := 100) (a := b) (z := z) (N := 400) rfl rfl (by omega) (by omega)) dX3_copy_117 (fun H locs hP hD hS => ?_)
      obtain ⟨z20, ez20⟩ : ∃ y : Int32, y = nI z + 1 := ⟨_, rfl⟩
      refine lv_iinc (v := z20) (lv' := [(3, .int z20), (0, .ref (mO ad)), (1, .int (nI a)), (2, .int (nI b))]) hx hb dX3_copy_118 hl (k := 0) rfl (by rw [ez20]; rfl) (by decide) rfl (fun ls hl => ?_)
      refine lv_goto (tgt := 2) hx hb dX3_copy_121 (by decide) ?_
      obtain rfl : z20 = nI (z + 1) := ez20.trans (nI_1 z)
      exact ih (z + 1) _ _ _ _ (by omega) (by subst hT; exact cp1S hab (by omega) h4 h5 h9) hP hD hS (lv_sub hl [0, 1, 2, 3] rfl)
  exact LP1 100 0 _ _ _ _ (by omega) (cp1_0 _ _ _) hP hD hS (by first | exact lv_sub hl [0, 1, 2, 3] rfl | (rw [nI_0]; exact lv_sub hl [0, 1, 2, 3] rfl))
theorem hdX3_copy : yX3_copy.cls = RX3 ∧ yX3_copy.cls ≠ "java/lang/invoke/MethodHandle" ∧ yX3_copy.cls ≠ "java/lang/invoke/VarHandle" ∧ (parseMethodDescriptor yX3_copy.desc).map (fun d => d.parameters.length) = some 2 := by decide +kernel
