/-! From the law's entry on the machine to the small machine. -/
def mj_h0 : mj_H := ([], fun _ _ => 0, fun _ _ => 0, fun _ _ => none)
