/-! the model by one sample: block b, grade g; the grade of block i -/
def md_sq (i b : Int32) : Int32 := ((i - i / 10 * 10) - (b - b / 10 * 10)) * ((i - i / 10 * 10) - (b - b / 10 * 10)) + 4 * (i / 10 - b / 10) * (i / 10 - b / 10)
def md_w (i b : Int32) : UInt64 := FP.ddiv FP.dconst1 (FP.i2d (md_sq i b))
def md_v (b g i : Int32) : UInt64 := if b = i then FP.ddiv (FP.dadd FP.dconst0 (FP.i2d g)) (FP.i2d 1) else FP.ddiv (FP.dadd FP.dconst0 (FP.dmul (md_w i b) (FP.i2d g))) (FP.dadd FP.dconst0 (md_w i b))
def md_r (x : UInt64) : UInt64 := FP.dsub x (FP.i2d (FP.d2i x))
def md_half : UInt64 := 4602678819172646912
/-- to the nearest -/
def md_tn (x : UInt64) : Int32 := if 0 < Op.cmpValue (FP.dcmp (md_r x) md_half) .l then FP.d2i x + 1 else if Op.cmpValue (FP.dcmp (md_r x) md_half) .l = 0 then (if FP.d2i x - FP.d2i x / 2 * 2 = 0 then FP.d2i x else FP.d2i x + 1) else FP.d2i x
def md_val (b g i : Int32) : Int32 := md_tn (md_v b g i)
