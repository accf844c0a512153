/-! what the first call on a fresh object answers -/
def sp_hole (w : Int) : Int32 := if 0 ≤ w ∧ w ≤ 9 then 0 else -1
def sp_holes (d n : Int) : Int32 := if (0 ≤ d ∧ d ≤ 5) ∧ 1 ≤ n ∧ n ≤ 10 then 0 else -1
def sp_mend (n w v : Int) : Int32 := if n = 0 ∧ w = 2 ∧ 1 ≤ v ∧ v ≤ 2 then 1 else if n = 0 ∧ w = 3 ∧ 0 ≤ v ∧ v ≤ 127 then 0 else -1
def sp_of (n w : Int) : Int32 := if n = 0 ∧ w = 10 then 1 else if n = 0 ∧ (w = 11 ∨ w = 12 ∨ w = 14) then 0 else if n = 0 ∧ w = 13 then -5 else -2000000000
def sp_feed (x : Int) : Int32 := if 0 ≤ x ∧ x ≤ 255 then 1 else -1
def sp_mayBe (d k : Int) : Int32 := if (0 ≤ d ∧ d ≤ 5) ∧ 0 ≤ k then -11 else -1
def sp_caught (d : Int) : Int32 := if 0 ≤ d ∧ d ≤ 5 then -11 else -1
def sp_two (x k least : Int) : Int32 := if (0 ≤ x ∧ x / 10 ≤ 5 ∧ x % 10 ≤ 5) ∧ least ≤ k then -11 else -1
def sp_sure (k : Int) : Int32 := if k < -1 then -1 else if k = -1 then 0 else -2
def sp_sureFrom (s t : Int) : Int32 := if s = 0 ∧ 0 ≤ t ∧ t ≤ 6 then 0 else -1
def sp_toStop (m : Int) : Int32 := if 1 ≤ m ∧ m ≤ 40 then 0 else -1
def sp_kept (s : Int) : Int32 := if s = 0 then 0 else -1
def sp_drawn (d nm w : Int) : Int32 := if (0 ≤ d ∧ d ≤ 5) ∧ 0 ≤ nm ∧ 1 ≤ nm / 100 ∧ nm / 100 ≤ 60 ∧ 1 ≤ nm % 100 ∧ nm % 100 ≤ 30 ∧ 0 ≤ w ∧ w ≤ 1 then -11 else -1
def sp_body (k : Int) : Int32 := if 0 ≤ k ∧ k ≤ 7 then 0 else -1
def sp_keep (d b : Int) : Int32 := if (0 ≤ d ∧ d ≤ 5) ∧ b = -1 then 1 else -1
def sp_row (d s n : Int) : Int32 := if (0 ≤ d ∧ d ≤ 5) ∧ (0 ≤ s ∧ s ≤ 4) ∧ n ≤ 60 then if n < 0 then -14 else 1 else -1
def sp_shift (d e : Int) : Int32 := if (0 ≤ d ∧ d ≤ 5) ∧ 0 ≤ e ∧ e ≤ 5 then -11 else -1
def sp_taken (d k : Int) : Int32 := if (0 ≤ d ∧ d ≤ 5) ∧ 0 ≤ k ∧ k ≤ 7 then -11 else -1
def sp_count (w : Int) : Int32 := if 0 ≤ w ∧ w ≤ 6 then 0 else -1
def sp_luckiest (m k : Int) : Int64 := if (1 ≤ m ∧ m ≤ 4) ∧ -2 ≤ k ∧ k < m then -2 else -9223372036854775808
theorem ne_two (x k l : Int) : ¬ sp_two x k l = 0 := by unfold sp_two; split <;> decide
