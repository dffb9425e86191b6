/-! ===== words of the explicit bodies ===== -/
def ji (z : Int) : Int32 := Int32.ofInt z
def jl (z : Int) : Int64 := Int64.ofInt z
def jshl (x y : Int32) : Int32 := x <<< (y &&& 31)
def jshr (x y : Int32) : Int32 := x >>> (y &&& 31)
def jushr (x y : Int32) : Int32 := (x.toUInt32 >>> (y.toUInt32 &&& Int32.toUInt32 31)).toInt32
def jrem (x y : Int32) : Int32 := x - x / y * y
def jlshl (x : Int64) (y : Int32) : Int64 := x <<< (y.toInt64 &&& 63)
def jlushr (x : Int64) (y : Int32) : Int64 := (x.toUInt64 >>> (y.toInt64.toUInt64 &&& Int64.toUInt64 63)).toInt64
def jtob (x : Int32) : Int32 := x.toInt8.toInt32
def jtoc (x : Int32) : Int32 := (x.toUInt32 % 65536).toInt32
def nb (x : Int32) : Prop := narrow .boolean (.int x) = .int x
def qV (k : XM → Prop) : XQ := fun v μ => match v with | none => k μ | _ => False
def qI (k : Int32 → XM → Prop) : XQ := fun v μ => match v with | some (.int r) => k r μ | _ => False
def qJ (k : Int64 → XM → Prop) : XQ := fun v μ => match v with | some (.long r) => k r μ | _ => False
def qD (k : UInt64 → XM → Prop) : XQ := fun v μ => match v with | some (.double r) => k r μ | _ => False
def qA (k : Nat → XM → Prop) (kn : XM → Prop) : XQ := fun v μ => match v with | some (.ref a) => k a μ | some .null => kn μ | _ => False
