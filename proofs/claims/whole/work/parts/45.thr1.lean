/-! throwing, and catching by a class that is not yet resolved -/
section COLDCATCH
variable {p : Program} {l : Launch} {e : Env} {R : Room} {s : State} {m : MethodId} {args : Array Value} {below : List Frame} {meth : Method} {c : Code} {T : State} {locs : List Loc} {cells slots : Nat}
theorem findCold {S : State} {g : JFrame} {a : Addr} {x : ExceptionTableEntry} {code : Code} {mt : Method} {vm₁ : Vm} {cC : ClassId} {cell : Cell} (hm : S.vm.method? g.method = some mt) (hc : mt.code = some code) (htab : code.exceptionTable.toList = [x]) (hx : covers x g.pc = true) (h0 : x.catchType ≠ 0)
    (hg : (Jvm.resolveClass g.method.cls x.catchType).Gives e.toSetting S.vm (.ok cC) vm₁) (hsz : vm₁.classes.size ≤ S.vm.classes.size) (hcell : S.heap[a]? = some cell) (hobj : ∀ k, cell.vm ≠ .statics k) (hk : ∃ k, vm₁.classes[cell.cls]? = some k) (hk2 : ∃ k, vm₁.classes[cC]? = some k) (hfit : vm₁.assignable cell.cls cC = true) (Q : Handler → Pre) (E : CtlPost) (d : Bool) (acts : List Action) :
    wp (findHandler g a) Q E e d acts S ↔ Q (.found x.handlerPc) d acts (S.setVm vm₁) := by
  rw [W.findHandler_eq hm hc, htab]
  obtain ⟨ha, ht⟩ := hg.op (op := VmOp.resolveClass g.method.cls x.catchType) rfl
  simp only [covers] at hx
  simp [findHandler.go, hx, h0, ha, ht, hsz, hcell, hobj, hk, hk2, hfit, VmOp.dirties, VmOp.acts]
end COLDCATCH
