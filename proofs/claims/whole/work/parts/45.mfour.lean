/-! what the model makes of a packet from inside -/
def mk_h1 (fo fi : Nat → UInt8) (sz : Nat) : Nat → UInt8 := tg_put (tg_put (tg_put fo 0 1 69) 1 1 (tg_pr (tg_rd fi sz) 0 / 2 ^ 4 % 2 ^ 8)) 2 2 (sz - 20)
def mk_h2 (fo fi : Nat → UInt8) (sz id : Nat) : Nat → UInt8 := tg_put (tg_put (mk_h1 fo fi sz) 4 2 (if sz - 20 ≤ 1260 then id else 0)) 6 2 (if sz - 20 ≤ 1260 then 0 else 16384)
def mk_h3 (fo fi : Nat → UInt8) (sz q id fa ta : Nat) : Nat → UInt8 := tg_put (tg_put (tg_put (tg_put (tg_put (mk_h2 fo fi sz id) 8 1 (tg_rd fi sz 7 - 1)) 9 1 q) 10 2 0) 12 4 fa) 16 4 ta
def mk_h4 (fo fi : Nat → UInt8) (sz q id fa ta : Nat) : Nat → UInt8 := tg_put (mk_h3 fo fi sz q id fa ta) 10 2 (tg_cl (tg_ws (tg_rd (mk_h3 fo fi sz q id fa ta) (sz - 20)) 0 10 20))
def mk_h5 (fo fi : Nat → UInt8) (sz q id fa ta : Nat) : Nat → UInt8 := va_cpy fi (mk_h4 fo fi sz q id fa ta) 40 20 (sz - 40)
def mk_h6 (fo fi : Nat → UInt8) (sz q id fa ta op : Nat) : Nat → UInt8 := if q = 1 then tg_put (tg_put (mk_h5 fo fi sz q id fa ta) 20 1 (if tg_rd fi sz 40 = 128 then 8 else 0)) 24 2 op else tg_put (mk_h5 fo fi sz q id fa ta) 20 2 op
def mk_four (fo fi : Nat → UInt8) (sz q id fa ta op : Nat) : Nat → UInt8 := tg_put (mk_h6 fo fi sz q id fa ta op) (20 + tg_sumAt q) 2 (tg_sum (tg_rd (mk_h6 fo fi sz q id fa ta op) (sz - 20)) 20 (sz - 20) (20 + tg_sumAt q) q)
def tg_id (sz id : Nat) : Nat := if sz - 20 ≤ 1260 then (if id = 65535 then 1 else id + 1) else id
