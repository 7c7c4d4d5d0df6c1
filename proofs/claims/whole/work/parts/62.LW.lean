section G_LW0
variable {p : Program} {l : Launch} {e : Env} {s : State} {m : MethodId} {args : Array Value} {below : List Frame} {meth : Method} {c : Code} {D : va_G} {cI cZ cT : ClassId}

abbrev part (cI : ClassId) (x : Option (Nat × Nat × TT)) : va_W := match x with | none => [] | some y => wT cI y.1 y.2.1 y.2.2
abbrev adr (x : Option (Nat × Nat × TT)) : Option Nat := x.map (fun y => y.1)
abbrev twn (x : Option (Nat × Nat × TT)) : Option TT := x.map (fun y => y.2.2)
abbrev wSl (cI cT : ClassId) (sl : Nat) (x0 x1 : Option (Nat × Nat × TT)) : va_W := (wA cT sl (fun j => if j = 0 then adr x0 else adr x1)) ++ (part cI x0) ++ (part cI x1)
theorem p3_X (a b c : va_W) : (a ++ b ++ c).Perm ((b ++ c) ++ a) := by
  refine pmc (fun k h => ?_)
  simp only [h]
  omega
theorem p3_M (a b c : va_W) : (a ++ b ++ c).Perm ((a ++ b) ++ c) := List.Perm.refl _
end G_LW0
