theorem tst1 (c : ClassId) (M : Nat) (dv : Value) : Jvm.Free.Multi.innerC c M dv = Jvm.Free.Multi.innerC c M dv := rfl
theorem tst2 (a b : State) (o : Outcome) (L : List Loc) (k n : Nat) : Jvm.Free.FrameEndT a o b L k n = Jvm.Free.FrameEndT a o b L k n := rfl
