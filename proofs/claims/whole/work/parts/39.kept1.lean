/-! worlds in blocks: what is kept aside in any number -/
theorem va_P_mem {D : va_G} {cl : List vw_C} {ws ws' : va_W} {H : Heap} (h : ∀ q ∈ ws', q ∈ ws) (hP : va_P D cl ws H) : va_P D cl ws' H := by
  intro k q hk
  obtain ⟨i, hi⟩ := List.getElem?_of_mem (h q (List.mem_of_getElem? hk))
  exact hP i q hi
theorem va_D_left {A : Nat → Prop} {x y : va_W} (h : va_D A (x ++ y)) : va_D A x := by
  have e : ∀ (k : Nat) (q : Nat × va_E), x[k]? = some q → (x ++ y)[k]? = some q := fun k q hk => by
    rw [List.getElem?_append_left ((List.getElem?_eq_some_iff.mp hk).1)]
    exact hk
  exact ⟨fun i j p q hi hj hpq => h.1 i j p q (e i p hi) (e j q hj) hpq, fun k q hk => h.2 k q (e k q hk)⟩
theorem ge_right {x y : va_W} {k : Nat} {q : Nat × va_E} (hk : y[k]? = some q) : (x ++ y)[x.length + k]? = some q := by
  rw [List.getElem?_append_right (by omega), Nat.add_sub_cancel_left]
  exact hk
theorem va_D_right {A : Nat → Prop} {x y : va_W} (h : va_D A (x ++ y)) : va_D A y :=
  ⟨fun i j p q hi hj hpq => by have := h.1 _ _ p q (ge_right hi) (ge_right hj) hpq; omega, fun k q hk => h.2 _ q (ge_right hk)⟩
theorem va_D_apart {A : Nat → Prop} {x y : va_W} (h : va_D A (x ++ y)) : ∀ (i j : Nat) (p q : Nat × va_E), x[i]? = some p → y[j]? = some q → p.1 ≠ q.1 := by
  intro i j p q hi hj he
  have hl := (List.getElem?_eq_some_iff.mp hi).1
  have := h.1 i (x.length + j) p q (by rw [List.getElem?_append_left hl]; exact hi) (ge_right hj) he
  omega
theorem va_D_swap {A : Nat → Prop} {x y : va_W} (h : va_D A (x ++ y)) : va_D A (y ++ x) := va_D.app (va_D_right h) (va_D_left h) (fun i j p q hi hj he => va_D_apart h j i q p hj hi he.symm)
/-- the frame, by blocks: the callee's block changes, the other stays -/
theorem frBlock {A0 : Nat → Prop} {D : va_G} {cl : List vw_C} {wc wr w1 : va_W} {H H1 : Heap} (hP : va_P D cl (wc ++ wr) H) (hD : va_D A0 (wc ++ wr)) (hk : ∀ q : Nat, q < H.size → ¬ va_A wc H.size q → H1[q]? = H[q]?) (hF : ∀ q, va_A wc H.size q → A0 q) (hP1 : va_P D cl w1 H1) (hD1 : va_D (va_A wc H.size) w1) : va_P D cl (w1 ++ wr) H1 ∧ va_D A0 (w1 ++ wr) := by
  have ap : ∀ (k : Nat) (q : Nat × va_E), wr[k]? = some q → q.1 < H.size ∧ ¬ va_A wc H.size q.1 := by
    intro k q hq
    have hl := (hP _ q (ge_right hq)).lt
    refine ⟨hl, fun h => ?_⟩
    rcases h with ⟨k2, e, h⟩ | h
    · exact va_D_apart hD k2 k (q.1, e) q h hq rfl
    · omega
  refine ⟨va_P.app hP1 (fun k q hq => (hP _ q (ge_right hq)).kept (hk q.1 (ap k q hq).1 (ap k q hq).2)), va_D.app (hD1.weaken (fun _ q _ h => hF q.1 h)) (va_D_right hD) (fun i j p q hi hj he => (ap j q hj).2 (by rw [← he]; exact hD1.2 i p hi))⟩
