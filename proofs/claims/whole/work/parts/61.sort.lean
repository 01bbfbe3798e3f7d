/-! a stable sort by insertion, as ranks: what stands at a place has that many ahead of it -/
section SORT
/-- how many d < n with P -/
def cntP (P : Nat → Prop) [DecidablePred P] : Nat → Nat
  | 0 => 0
  | n + 1 => cntP P n + (if P n then 1 else 0)
end SORT
