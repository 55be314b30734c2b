/-! THE DEVIATIONS: shapes of three cells at most, by their number of cells -/
def adL (v : Nat) : Nat → List Nat → List Nat
  | 0, l => l
  | j + 1, l => if v >>> (12 - (j + 1)) = 0 ∧ l.length < 299 then adL v j (l ++ [v ||| (1 <<< (12 - (j + 1)))]) else adL v j l
def adR (f e : Nat) : Nat → List Nat → List Nat
  | 0, l => l
  | j + 1, l => if f < e then adR (f + 1) e j (adL (l.getD f 0) 12 l) else l
def devL : List Nat := adR (1 + 12) (1 + 12 + 66) 66 (adR 1 (1 + 12) 12 (adR 0 1 1 [0]))
set_option maxRecDepth 100000 in
theorem devL_len : devL.length = 299 := by decide +kernel
set_option maxRecDepth 100000 in
theorem devL_bd : devL.all (fun v => decide (v < 4096)) = true := by decide +kernel
set_option maxRecDepth 100000 in
theorem devL_pc : (devL.zip (devL.drop 1)).all (fun v => decide (pc v.1 ≤ pc v.2)) = true := by decide +kernel
set_option maxRecDepth 100000 in
theorem devL_all : (List.range 4096).all (fun m => decide (3 < pc m) || devL.contains m) = true := by decide +kernel
