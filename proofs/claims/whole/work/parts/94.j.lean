section LWK
variable {p : Program} {l : Launch} {e : Env} {s : State} {m : MethodId} {below : List Frame} {meth : Method} {c : Code} {H : Heap} {cells slots : Nat} {b L k pc : Nat} {xs : Nat → Int32} {D : va_G} {Y : Nat → ClassId} {ls : Array Slot} {rest : List Value} {a : AS} {ad : OA} {t : OS} {K : Nat → Option (CA × CS)} {ma : MA} {S : MS} {ou : Nat} {f : Nat → Int64} {Q : State → Prop}
set_option maxHeartbeats 4000000 in
set_option maxRecDepth 100000 in
theorem lw_table (hT : LT l s b) (C : LC p s m c b L xs D Y) (hN : LN p l e s m below meth c b k D Y) (hk : 4 * k + 4 ≤ L) (hS0 : LSt D Y s H a ad t K ma S ou f) (hl : lv_has ls 7 (lLv b k ad ma ou)) (y : Int32) : W p l e room_1 s m #[Value.ref b] below meth c H [] (lCe k) (lSl k t K) (lw_Z below #[Value.ref b] s) (F0 m 39 ls [.int y]) := by
  have C0 := C
  obtain ⟨hx, hb, hml, hown, hts, hK, hNe, hX, hbl, hL⟩ := C0
  by_cases c0 : y = 0
  · refine lv_tableIn (off := 69) (tgt := 108) hx hb dL_law_39 (by rw [c0]; decide) (by rw [c0]; decide) (by rw [c0]; decide) (by decide) ?_
    exact lw_make C hN hk hS0 hl
  by_cases c1 : y = 1
  · refine lv_tableIn (off := 106) (tgt := 145) hx hb dL_law_39 (by rw [c1]; decide) (by rw [c1]; decide) (by rw [c1]; decide) (by decide) ?_
    exact lw_put C hN hk hS0 hl
  by_cases c2 : y = 2
  · refine lv_tableIn (off := 155) (tgt := 194) hx hb dL_law_39 (by rw [c2]; decide) (by rw [c2]; decide) (by rw [c2]; decide) (by decide) ?_
    exact lw_get hT C hN hk hS0 hl
  by_cases c3 : y = 3
  · refine lv_tableIn (off := 223) (tgt := 262) hx hb dL_law_39 (by rw [c3]; decide) (by rw [c3]; decide) (by rw [c3]; decide) (by decide) ?_
    exact lw_part C hN hk hS0 hl
  by_cases c4 : y = 4
  · refine lv_tableIn (off := 272) (tgt := 311) hx hb dL_law_39 (by rw [c4]; decide) (by rw [c4]; decide) (by rw [c4]; decide) (by decide) ?_
    exact lw_attribute C hN hk hS0 hl
  by_cases c5 : y = 5
  · refine lv_tableIn (off := 321) (tgt := 360) hx hb dL_law_39 (by rw [c5]; decide) (by rw [c5]; decide) (by rw [c5]; decide) (by decide) ?_
    exact lw_told C hN hk hS0 hl
  by_cases c6 : y = 6
  · refine lv_tableIn (off := 358) (tgt := 397) hx hb dL_law_39 (by rw [c6]; decide) (by rw [c6]; decide) (by rw [c6]; decide) (by decide) ?_
    exact lw_same C hN hk hS0 hl
  by_cases c7 : y = 7
  · refine lv_tableIn (off := 395) (tgt := 434) hx hb dL_law_39 (by rw [c7]; decide) (by rw [c7]; decide) (by rw [c7]; decide) (by decide) ?_
    exact lw_compare C hN hk hS0 hl
  by_cases c8 : y = 8
  · refine lv_tableIn (off := 432) (tgt := 471) hx hb dL_law_39 (by rw [c8]; decide) (by rw [c8]; decide) (by rw [c8]; decide) (by decide) ?_
    exact lw_length C hN hk hS0 hl
  by_cases c9 : y = 9
  · refine lv_tableIn (off := 457) (tgt := 496) hx hb dL_law_39 (by rw [c9]; decide) (by rw [c9]; decide) (by rw [c9]; decide) (by decide) ?_
    exact lw_entry C hN hk hS0 hl
  by_cases c10 : y = 10
  · refine lv_tableIn (off := 506) (tgt := 545) hx hb dL_law_39 (by rw [c10]; decide) (by rw [c10]; decide) (by rw [c10]; decide) (by decide) ?_
    exact lw_look C hN hk hS0 hl
  by_cases c11 : y = 11
  · refine lv_tableIn (off := 543) (tgt := 582) hx hb dL_law_39 (by rw [c11]; decide) (by rw [c11]; decide) (by rw [c11]; decide) (by decide) ?_
    exact lw_kind C hN hk hS0 hl
  by_cases c12 : y = 12
  · refine lv_tableIn (off := 568) (tgt := 607) hx hb dL_law_39 (by rw [c12]; decide) (by rw [c12]; decide) (by rw [c12]; decide) (by decide) ?_
    exact lw_used C hN hk hS0 hl
  by_cases c13 : y = 13
  · refine lv_tableIn (off := 581) (tgt := 620) hx hb dL_law_39 (by rw [c13]; decide) (by rw [c13]; decide) (by rw [c13]; decide) (by decide) ?_
    exact lw_restore C hN hk hS0 hl
  refine lv_tableD (tgt := 645) hx hb dL_law_39 (tblD (ks := [0, 1, 2, 3, 4, 5, 6, 7, 8, 9, 10, 11, 12, 13]) (by decide) (List.forall_mem_cons.mpr ⟨neI c0 (by decide), (List.forall_mem_cons.mpr ⟨neI c1 (by decide), (List.forall_mem_cons.mpr ⟨neI c2 (by decide), (List.forall_mem_cons.mpr ⟨neI c3 (by decide), (List.forall_mem_cons.mpr ⟨neI c4 (by decide), (List.forall_mem_cons.mpr ⟨neI c5 (by decide), (List.forall_mem_cons.mpr ⟨neI c6 (by decide), (List.forall_mem_cons.mpr ⟨neI c7 (by decide), (List.forall_mem_cons.mpr ⟨neI c8 (by decide), (List.forall_mem_cons.mpr ⟨neI c9 (by decide), (List.forall_mem_cons.mpr ⟨neI c10 (by decide), (List.forall_mem_cons.mpr ⟨neI c11 (by decide), (List.forall_mem_cons.mpr ⟨neI c12 (by decide), (List.forall_mem_cons.mpr ⟨neI c13 (by decide), (fun _ h => absurd h List.not_mem_nil)⟩)⟩)⟩)⟩)⟩)⟩)⟩)⟩)⟩)⟩)⟩)⟩)⟩)⟩) (by decide)) (by decide) ?_
  exact l645 C hN hS0 hl (by unfold lCe; omega) (by unfold lSl; omega)
theorem lw_sub {L k : Nat} (hL : L ≤ 2048) (hk : 4 * k ≤ L) (h : ¬ nI L - 4 < nI (4 * k)) : 4 * k + 4 ≤ L := by
  have e1 : (nI L - nI 4).toInt = (L : Int) - 4 := pk_sub_toInt (a := L) (b := 4) (by omega) (by omega)
  have e2 : (nI (4 * k)).toInt = ((4 * k : Nat) : Int) := nI_toInt (by omega)
  have h2 : ¬ (nI L - nI 4).toInt < (nI (4 * k)).toInt := fun q => h (Int32.lt_iff_toInt_lt.mpr q)
  rw [e1, e2] at h2
  omega
set_option maxHeartbeats 4000000 in
set_option maxRecDepth 100000 in
theorem lw_loop (hT : LT l s b) (C : LC p s m c b L xs D Y) (hr : meth.sig.returnType = ret) (hlocks : meth.locks = false) : ∀ (d k : Nat), L < 4 * k + 4 * d → 4 * k ≤ L → ∀ (a : AS) (ad : OA) (t : OS) (K : Nat → Option (CA × CS)) (ma : MA) (S : MS) (ou : Nat) (f : Nat → Int64) (H : Heap) (ls : Array Slot), LSt D Y s H a ad t K ma S ou f → lv_has ls 7 (lLv b k ad ma ou) → W p l e room_1 s m #[Value.ref b] below meth c H [] (lCe k) (lSl k t K) (lw_Z below #[Value.ref b] s) (F0 m 23 ls []) := by
  intro d
  induction d with
  | zero => intro k h1 h2; omega
  | succ d ih =>
    intro k h1 h2 a ad t K ma S ou f H ls hS0 hl
    have C0 := C
    obtain ⟨hx, hb, hml, hown, hts, hK, hNe, hX, hbl, hL⟩ := C0
    have hS := hS0.2.2.2
    have hbA : ¬ lA s b := Nat.not_le.mpr hbl
    refine lv_iload hx hb dL_law_23 (lv_at hl 0 rfl) ?_
    refine lv_aload_n hx hb dL_law_25 rfl (lv_at hl 1 rfl) ?_
    refine va_slen hx hb hX hbl hbA hS dL_law_26 ?_
    refine lv_iconst (v := 4) hx hb dL_law_27 (by decide) ?_
    refine lv_isub hx hb dL_law_28 ?_
    refine lv_icmp_gt (tgt := 651) hx hb dL_law_29 (by decide) (fun _ => ?_) (fun hng => ?_)
    · refine lv_iconst (v := 1) hx hb dL_law_651 (by decide) ?_
      refine W.widen (k := room_1.cells) (n := room_1.slots) (Nat.le_trans (m := 600000) (by unfold lCe; omega) (by decide)) (Nat.le_trans (m := 7000000) (by have := hS0.1.psi_le; unfold lSl; omega) (by decide)) ?_
      exact lw_ret hx hb hr hlocks dL_law_652
    · have hk : 4 * k + 4 ≤ L := lw_sub hL h2 hng
      refine lv_aload_n hx hb dL_law_32 rfl (lv_at hl 1 rfl) ?_
      refine lv_iload hx hb dL_law_33 (lv_at hl 0 rfl) ?_
      refine va_sld hx hb hX hbl hbA hS (vp_in_nI (by omega) (by omega)) dL_law_35 ?_
      refine lv_bipush (v := 15) hx hb dL_law_36 (by decide) ?_
      refine lv_iand hx hb dL_law_38 ?_
      refine lv_topi (fun y _ => ?_)
      exact lw_table hT C (fun a ad t K ma S ou f H ls hS0 hl => ih (k + 1) (by omega) (by omega) a ad t K ma S ou f H ls hS0 hl) hk hS0 hl y
end LWK
