/-! figures: the class's bits beside the machine's -/
def fpF (a b : Nat) : Bool := decide ((FP.fdiv (FP.i2f (nI a)) (FP.i2f (nI b))).toInt32 = (qBt a b 24 127).toInt32) && !(isNaN32 (FP.fdiv (FP.i2f (nI a)) (FP.i2f (nI b))))
def fpD (a b : Nat) : Bool := decide ((FP.ddiv (FP.i2d (nI a)) (FP.i2d (nI b))).toInt64 = qBt a b 53 1023) && !(isNaN64 (FP.ddiv (FP.i2d (nI a)) (FP.i2d (nI b))))
