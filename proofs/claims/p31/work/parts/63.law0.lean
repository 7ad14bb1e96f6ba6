/-! The law's frame. -/
def lw_cx (p : Program) (s : State) (m : MethodId) (c : Code) (Z : hw_Z) : Prop :=
  p.tables.exec = Jvm.exec ∧ c.code = cL_law ∧ c.maxLocals = 19 ∧ s.vm.findClass RL = some m.cls ∧ (∀ w ∈ hw_ws, w.before #[Value.ref Z.2.2.2] s = true) ∧ hw_kk Z s
