/-! both: the first text -/
def tap0 : Nat → Int32 := tpK law7 (fun _ => 0) 50
def L0 : List (List Op) := match pTx tap0 50 with
  | .inr L => L
  | .inl _ => []
theorem pTx_0 : pTx tap0 50 = .inr L0 := by decide +kernel

