def xI (n : Nat) : Nat → St := fun k => bif Nat.beq k 2 then sc z0 0 (nI n) else bif (Nat.ble 10 k && Nat.ble k 17) then sc (sc z0 3 41) 4 (-1) else z0
def yI (v : Int32) : St := st (sc z0 1 v) 6 (flI (fun _ => 0) 200 (-1))
