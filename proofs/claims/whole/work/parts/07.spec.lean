def S_begin (t : Mem) (u : Nat) (w c d : Int32) : Mem := pD (pI (pI (pI (pI (pI (pI t 0 u 0) 1 u w) 2 u c) 3 u d) 4 u 0) 5 u (-1)) 0 u FP.dconst0
def S_becomeLive (t : Mem) (u : Nat) (d : Int32) : Mem := pD (pI (pI (pI t 0 u 1) 3 u d) 4 u 0) 0 u FP.dconst0
def S_stop (t : Mem) (u : Nat) (d : Int32) : Mem := pI (pI (pI t 0 u 2) 3 u d) 4 u 1
def S_end (t : Mem) (u : Nat) : Mem := pI (pI t 0 u (-1)) 6 u 0
def S_takes (t : Mem) (u : Nat) (w : Int32) : Int32 := if gI t 0 u = 1 then (if gI t 1 u = w then 1 else 0) else 0
def P_comeIn (t : Mem) (u : Nat) (x a z : Int32) : Mem := pI (pI (pI (pI t 20 u x) 21 u a) 22 u z) 23 u 0
def O_add (t : Mem) (k : Nat) (a x s n : Int32) : Mem := if k < 60 then pI (pI (pI (pI (pI (pI t 29 0 (gI t 29 0 + 1)) 24 k a) 25 k x) 26 k s) 27 k n) 28 0 (nI (k + 1)) else pI t 29 0 (gI t 29 0 + 1)
