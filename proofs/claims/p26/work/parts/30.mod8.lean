/-! the check's own beacon: a tick walks -/
section SPEC30
variable {S : List Int} {D : eD} {h : eH} {Q : Option eV → eH → Prop} {r : Nat} {s p v x fr a ab : Int} {F : eRow}
end SPEC30
