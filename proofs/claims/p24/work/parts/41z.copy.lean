def z0 : zS := fun _ _ => 0
def zCut (n : Nat) (σ : zS) : zS := fun k => if k < n then σ k else fun _ => 0
