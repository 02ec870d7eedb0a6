theorem xup_twice {M : xM} {c : Nat} {k v v' : Int} : xup (xup M c k v) c k v' = xup M c k v' := by
  funext a b
  simp only [xup_app]
  split <;> rfl
