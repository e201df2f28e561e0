/-! plan: not yet -/
section
variable {L k : Nat} {s : Row} {d : Dat}
theorem ok_plan {a g n : Int} (h : HV s d) : OkL L (k + 100) 24 99 [vI a, vI g, vI n] s d := sorry
end
