/-! ===== the first state ===== -/
def zs0 : zS := fun j => if j < 120 then 4 else if j = 531 then 6 else if j = 532 then 2 else if j = 533 then 5 else if j = 534 then 4 else 0
