def rmS (s : SV) (c m : Nat) : Option Nat := (List.range' 0 6).find? (fun r => hX s c r m)
def rmN : Option Nat → Nat
  | some r => r + 1
  | none => 0
def mdl (s : SV) (q : Nat) : Int32 :=
  if q < 6 then s.1 q else if q < 22 then s.2.1 0 (q - 6) else if q < 28 then s.2.1 1 (q - 22) else if q < 148 then s.2.1 2 (q - 28)
  else if q < 1108 then nI (rmN (rmS s ((q - 148) / 48) ((q - 148) % 48)))
  else if q < 1492 then bI (hB s ((q - 1108) / 48) ((q - 1108) % 48))
  else if q < 1892 then bI (hol s (q - 1492)) else 0
