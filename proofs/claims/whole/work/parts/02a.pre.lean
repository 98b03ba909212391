/-! By program (wip/whole/gen.py): the words that the formulas are made of. -/
abbrev cx : Type := Launch × va_G × ClassId × ClassId
abbrev eI (E : cx) : ClassId := E.2.2.1
abbrev eF (E : cx) : ClassId := E.2.2.2
abbrev eT (E : cx) : List (ClassId × FieldType) := [(eI E, .int), (eF E, .object "ContinuedRatios$Fraction")]
def j_iushr (x y : Int32) : Int32 := (x.toUInt32 >>> (y.toUInt32 &&& Int32.toUInt32 31)).toInt32
def j_lushr (x : Int64) (y : Int32) : Int64 := (x.toUInt64 >>> (y.toInt64.toUInt64 &&& Int64.toUInt64 63)).toInt64
def j_lshl (x : Int64) (y : Int32) : Int64 := x <<< (y.toInt64 &&& 63)
def j_lshr (x : Int64) (y : Int32) : Int64 := x >>> (y.toInt64 &&& 63)
