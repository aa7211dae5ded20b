def f_X0_placeOf (a0 : Int64) : Int64 := (if a0 < 0 then ((-9223372036854775808) - a0) else a0)
abbrev rmX0_placeOf : Room := { frames := 0, cells := 0, slots := 0, locals := 0 }

def f_X0_atPlace (a0 : Int64) : Int64 := (if a0 < 0 then ((-9223372036854775808) - a0) else a0)
abbrev rmX0_atPlace : Room := { frames := 0, cells := 0, slots := 0, locals := 0 }

def f_X0_opposite (a0 : Int64) : Int64 := (a0 ^^^ (-9223372036854775808))
abbrev rmX0_opposite : Room := { frames := 0, cells := 0, slots := 0, locals := 0 }

def f_X0_sizeOf (a0 : Int64) : Int64 := (a0 &&& 9223372036854775807)
abbrev rmX0_sizeOf : Room := { frames := 0, cells := 0, slots := 0, locals := 0 }

def f_X0_isZero (a0 : Int64) : Bool := (if (f_X0_sizeOf a0) = 0 then true else false)
abbrev rmX0_isZero : Room := { frames := 1, cells := 0, slots := 0, locals := 21 }

def f_X0_hasNoEnd (a0 : Int64) : Bool := (if (f_X0_sizeOf a0) = 9218868437227405312 then true else false)
abbrev rmX0_hasNoEnd : Room := { frames := 1, cells := 0, slots := 0, locals := 21 }

def f_X0_exponentBits (a0 : Int64) : Int32 := (((jshr a0 52).toInt32) &&& 2047)
abbrev rmX0_exponentBits : Room := { frames := 0, cells := 0, slots := 0, locals := 0 }

def f_X0_whole (a0 : Int64) : Int64 := (if (f_X0_exponentBits a0) = 0 then (a0 &&& 4503599627370495) else ((a0 &&& 4503599627370495) ||| 4503599627370496))
abbrev rmX0_whole : Room := { frames := 1, cells := 0, slots := 0, locals := 21 }

def f_J6_numberOfTrailingZeros_0f7a4 (a0 : Int32) : Int32 := (if 0 < ((a0 ^^^ (-1)) &&& (a0 - 1)) then (if 65536 < ((a0 ^^^ (-1)) &&& (a0 - 1)) then (if 256 < (jiushr ((a0 ^^^ (-1)) &&& (a0 - 1)) 16) then (if 16 < (jiushr (jiushr ((a0 ^^^ (-1)) &&& (a0 - 1)) 16) 8) then (if 4 < (jiushr (jiushr (jiushr ((a0 ^^^ (-1)) &&& (a0 - 1)) 16) 8) 4) then (((((1 + 16) + 8) + 4) + 2) + (jiushr (jiushr (jiushr (jiushr (jiushr ((a0 ^^^ (-1)) &&& (a0 - 1)) 16) 8) 4) 2) 1)) else ((((1 + 16) + 8) + 4) + (jiushr (jiushr (jiushr (jiushr ((a0 ^^^ (-1)) &&& (a0 - 1)) 16) 8) 4) 1))) else (if 4 < (jiushr (jiushr ((a0 ^^^ (-1)) &&& (a0 - 1)) 16) 8) then ((((1 + 16) + 8) + 2) + (jiushr (jiushr (jiushr (jiushr ((a0 ^^^ (-1)) &&& (a0 - 1)) 16) 8) 2) 1)) else (((1 + 16) + 8) + (jiushr (jiushr (jiushr ((a0 ^^^ (-1)) &&& (a0 - 1)) 16) 8) 1)))) else (if 16 < (jiushr ((a0 ^^^ (-1)) &&& (a0 - 1)) 16) then (if 4 < (jiushr (jiushr ((a0 ^^^ (-1)) &&& (a0 - 1)) 16) 4) then ((((1 + 16) + 4) + 2) + (jiushr (jiushr (jiushr (jiushr ((a0 ^^^ (-1)) &&& (a0 - 1)) 16) 4) 2) 1)) else (((1 + 16) + 4) + (jiushr (jiushr (jiushr ((a0 ^^^ (-1)) &&& (a0 - 1)) 16) 4) 1))) else (if 4 < (jiushr ((a0 ^^^ (-1)) &&& (a0 - 1)) 16) then (((1 + 16) + 2) + (jiushr (jiushr (jiushr ((a0 ^^^ (-1)) &&& (a0 - 1)) 16) 2) 1)) else ((1 + 16) + (jiushr (jiushr ((a0 ^^^ (-1)) &&& (a0 - 1)) 16) 1))))) else (if 256 < ((a0 ^^^ (-1)) &&& (a0 - 1)) then (if 16 < (jiushr ((a0 ^^^ (-1)) &&& (a0 - 1)) 8) then (if 4 < (jiushr (jiushr ((a0 ^^^ (-1)) &&& (a0 - 1)) 8) 4) then ((((1 + 8) + 4) + 2) + (jiushr (jiushr (jiushr (jiushr ((a0 ^^^ (-1)) &&& (a0 - 1)) 8) 4) 2) 1)) else (((1 + 8) + 4) + (jiushr (jiushr (jiushr ((a0 ^^^ (-1)) &&& (a0 - 1)) 8) 4) 1))) else (if 4 < (jiushr ((a0 ^^^ (-1)) &&& (a0 - 1)) 8) then (((1 + 8) + 2) + (jiushr (jiushr (jiushr ((a0 ^^^ (-1)) &&& (a0 - 1)) 8) 2) 1)) else ((1 + 8) + (jiushr (jiushr ((a0 ^^^ (-1)) &&& (a0 - 1)) 8) 1)))) else (if 16 < ((a0 ^^^ (-1)) &&& (a0 - 1)) then (if 4 < (jiushr ((a0 ^^^ (-1)) &&& (a0 - 1)) 4) then (((1 + 4) + 2) + (jiushr (jiushr (jiushr ((a0 ^^^ (-1)) &&& (a0 - 1)) 4) 2) 1)) else ((1 + 4) + (jiushr (jiushr ((a0 ^^^ (-1)) &&& (a0 - 1)) 4) 1))) else (if 4 < ((a0 ^^^ (-1)) &&& (a0 - 1)) then ((1 + 2) + (jiushr (jiushr ((a0 ^^^ (-1)) &&& (a0 - 1)) 2) 1)) else (1 + (jiushr ((a0 ^^^ (-1)) &&& (a0 - 1)) 1)))))) else (((a0 ^^^ (-1)) &&& (a0 - 1)) &&& 32))
abbrev rmJ6_numberOfTrailingZeros_0f7a4 : Room := { frames := 0, cells := 0, slots := 0, locals := 0 }

def f_J13_numberOfTrailingZeros_95d88 (a0 : Int64) : Int32 := (if (a0.toInt32) = 0 then (32 + (f_J6_numberOfTrailingZeros_0f7a4 ((jushr a0 32).toInt32))) else (f_J6_numberOfTrailingZeros_0f7a4 (a0.toInt32)))
abbrev rmJ13_numberOfTrailingZeros_95d88 : Room := { frames := 1, cells := 0, slots := 0, locals := 21 }

def f_X0_shift (a0 : Int64) : Int32 := ((if (f_X0_exponentBits a0) < 1 then 1 else (f_X0_exponentBits a0)) - 1)
abbrev rmX0_shift : Room := { frames := 1, cells := 0, slots := 0, locals := 21 }

def f_X0_tailOf (a0 : Int64) : Int32 := (((f_J13_numberOfTrailingZeros_95d88 (f_X0_whole a0)) + (f_X0_shift a0)) + (-1074))
abbrev rmX0_tailOf : Room := { frames := 2, cells := 0, slots := 0, locals := 44 }

def f_X0_hasNoFraction (a0 : Int64) : Bool := (if (f_X0_isZero a0) = false then (if (f_X0_hasNoEnd a0) = false then (if (f_X0_tailOf a0) < 0 then false else true) else false) else true)
abbrev rmX0_hasNoFraction : Room := { frames := 3, cells := 0, slots := 0, locals := 65 }

def f_X0_hasLeastExponent (a0 : Int64) : Bool := (if (f_X0_exponentBits a0) = 0 then true else false)
abbrev rmX0_hasLeastExponent : Room := { frames := 1, cells := 0, slots := 0, locals := 21 }

def f_X0_handedExponent (a0 : Int32) : Int32 := (if a0 < 64 then (a0 - 1074) else (if 191 < a0 then (a0 + 761) else (a0 - 128)))
abbrev rmX0_handedExponent : Room := { frames := 0, cells := 0, slots := 0, locals := 0 }

def f_J6_numberOfLeadingZeros_0f7a4 (a0 : Int32) : Int32 := (if 0 < a0 then (if a0 < 65536 then (if a0 < 256 then (if a0 < 16 then (if a0 < 4 then (31 - (jiushr a0 1)) else ((31 + (-2)) - (jiushr (jiushr a0 2) 1))) else (if (jiushr a0 4) < 4 then ((31 + (-4)) - (jiushr (jiushr a0 4) 1)) else (((31 + (-4)) + (-2)) - (jiushr (jiushr (jiushr a0 4) 2) 1)))) else (if (jiushr a0 8) < 16 then (if (jiushr a0 8) < 4 then ((31 + (-8)) - (jiushr (jiushr a0 8) 1)) else (((31 + (-8)) + (-2)) - (jiushr (jiushr (jiushr a0 8) 2) 1))) else (if (jiushr (jiushr a0 8) 4) < 4 then (((31 + (-8)) + (-4)) - (jiushr (jiushr (jiushr a0 8) 4) 1)) else ((((31 + (-8)) + (-4)) + (-2)) - (jiushr (jiushr (jiushr (jiushr a0 8) 4) 2) 1))))) else (if (jiushr a0 16) < 256 then (if (jiushr a0 16) < 16 then (if (jiushr a0 16) < 4 then ((31 + (-16)) - (jiushr (jiushr a0 16) 1)) else (((31 + (-16)) + (-2)) - (jiushr (jiushr (jiushr a0 16) 2) 1))) else (if (jiushr (jiushr a0 16) 4) < 4 then (((31 + (-16)) + (-4)) - (jiushr (jiushr (jiushr a0 16) 4) 1)) else ((((31 + (-16)) + (-4)) + (-2)) - (jiushr (jiushr (jiushr (jiushr a0 16) 4) 2) 1)))) else (if (jiushr (jiushr a0 16) 8) < 16 then (if (jiushr (jiushr a0 16) 8) < 4 then (((31 + (-16)) + (-8)) - (jiushr (jiushr (jiushr a0 16) 8) 1)) else ((((31 + (-16)) + (-8)) + (-2)) - (jiushr (jiushr (jiushr (jiushr a0 16) 8) 2) 1))) else (if (jiushr (jiushr (jiushr a0 16) 8) 4) < 4 then ((((31 + (-16)) + (-8)) + (-4)) - (jiushr (jiushr (jiushr (jiushr a0 16) 8) 4) 1)) else (((((31 + (-16)) + (-8)) + (-4)) + (-2)) - (jiushr (jiushr (jiushr (jiushr (jiushr a0 16) 8) 4) 2) 1)))))) else (if a0 = 0 then 32 else 0))
abbrev rmJ6_numberOfLeadingZeros_0f7a4 : Room := { frames := 0, cells := 0, slots := 0, locals := 0 }

def f_J13_numberOfLeadingZeros_95d88 (a0 : Int64) : Int32 := (if ((jushr a0 32).toInt32) = 0 then (32 + (f_J6_numberOfLeadingZeros_0f7a4 (a0.toInt32))) else (f_J6_numberOfLeadingZeros_0f7a4 ((jushr a0 32).toInt32)))
abbrev rmJ13_numberOfLeadingZeros_95d88 : Room := { frames := 1, cells := 0, slots := 0, locals := 21 }

def f_X0_halved (a0 : Int64) (a1 : Int32) : Int64 := (if 54 < a1 then 0 else (if (jshl 1 (a1 - 1)) < (a0 - (jshl (jshr a0 a1) a1)) then ((jshr a0 a1) + 1) else (if (a0 - (jshl (jshr a0 a1) a1)) = (jshl 1 (a1 - 1)) then (if ((jshr a0 a1) &&& 1) = 1 then ((jshr a0 a1) + 1) else (jshr a0 a1)) else (jshr a0 a1))))
abbrev rmX0_halved : Room := { frames := 0, cells := 0, slots := 0, locals := 0 }

def f_X0_nearest (a0 : Int64) (a1 : Int32) : Int64 := (if 2097 < ((63 - (f_J13_numberOfLeadingZeros_95d88 a0)) + a1) then 9218868437227405312 else (if a1 < 0 then (f_X0_halved a0 (-a1)) else (if (52 - (63 - (f_J13_numberOfLeadingZeros_95d88 a0))) < a1 then ((jshl ((a1 - (52 - (63 - (f_J13_numberOfLeadingZeros_95d88 a0)))).toInt64) 52) + (jshl a0 (52 - (63 - (f_J13_numberOfLeadingZeros_95d88 a0))))) else (jshl a0 a1))))
abbrev rmX0_nearest : Room := { frames := 2, cells := 0, slots := 0, locals := 43 }

def f_X0_handed (a0 : Int32) (a1 : Int32) : Int64 := (if a0 = 0 then 0 else (if a0 < 0 then (f_X0_opposite (f_X0_nearest ((if 0 ≤ a0 then a0 else 0 - a0).toInt64) ((f_X0_handedExponent a1) - (-1074)))) else (f_X0_nearest ((if 0 ≤ a0 then a0 else 0 - a0).toInt64) ((f_X0_handedExponent a1) - (-1074)))))
abbrev rmX0_handed : Room := { frames := 3, cells := 0, slots := 0, locals := 67 }

def f_X0_raised (a0 : Int64) (a1 : Int32) : Int64 := (if (9218868437227405312 - (a1.toInt64)) < (f_X0_placeOf a0) then 9218868437227405312 else (if 0 < a1 then (if ((f_X0_placeOf a0) + (a1.toInt64)) = 0 then (-9223372036854775808) else (if a1 = 0 then a0 else (f_X0_atPlace ((f_X0_placeOf a0) + (a1.toInt64))))) else (if a1 = 0 then a0 else (f_X0_atPlace ((f_X0_placeOf a0) + (a1.toInt64))))))
abbrev rmX0_raised : Room := { frames := 1, cells := 0, slots := 0, locals := 21 }

def f_X0_lowered (a0 : Int64) (a1 : Int32) : Int64 := (f_X0_opposite (f_X0_raised (f_X0_opposite a0) a1))
abbrev rmX0_lowered : Room := { frames := 2, cells := 0, slots := 0, locals := 45 }

def f_J13_compare_74951 (a0 : Int64) (a1 : Int64) : Int32 := (if a0 < a1 then (-1) else (if a0 = a1 then 0 else 1))
abbrev rmJ13_compare_74951 : Room := { frames := 0, cells := 0, slots := 0, locals := 0 }

def f_X0_order (a0 : Int64) (a1 : Int64) : Int32 := (f_J13_compare_74951 (f_X0_placeOf a0) (f_X0_placeOf a1))
abbrev rmX0_order : Room := { frames := 1, cells := 0, slots := 0, locals := 23 }

def f_X0_nearer (a0 : Int64) (a1 : Int64) : Int64 := (if (f_X0_order a0 a1) = 0 then a1 else (if (f_X0_order a0 a1) < 0 then (f_X0_raised a0 1) else (f_X0_lowered a0 1)))
abbrev rmX0_nearer : Room := { frames := 3, cells := 0, slots := 0, locals := 67 }

def f_X0_distance (a0 : Int64) (a1 : Int64) : Int64 := (if (f_X0_order a0 a1) < 0 then (-((f_X0_placeOf a0) - (f_X0_placeOf a1))) else ((f_X0_placeOf a0) - (f_X0_placeOf a1)))
abbrev rmX0_distance : Room := { frames := 2, cells := 0, slots := 0, locals := 46 }

def f_X0_isMoreThan (a0 : Int64) (a1 : Int32) : Bool := (if a0 < 0 then true else (if (a1.toInt64) < a0 then true else false))
abbrev rmX0_isMoreThan : Room := { frames := 0, cells := 0, slots := 0, locals := 0 }

def f_X0_between (a0 : Int64) (a1 : Int64) : Int64 := (f_X0_atPlace (((f_X0_placeOf a0) &&& (f_X0_placeOf a1)) + (jshr ((f_X0_placeOf a0) ^^^ (f_X0_placeOf a1)) 1)))
abbrev rmX0_between : Room := { frames := 1, cells := 0, slots := 0, locals := 21 }

def f_X0_scaled (a0 : Int64) (a1 : Int32) : Int64 := (if (f_X0_isZero a0) = false then (if (f_X0_hasNoEnd a0) = false then ((a0 &&& (-9223372036854775808)) ||| (f_X0_nearest (f_X0_whole a0) ((f_X0_shift a0) + a1))) else a0) else a0)
abbrev rmX0_scaled : Room := { frames := 3, cells := 0, slots := 0, locals := 67 }

def f_X0_exponentOf (a0 : Int64) : Int32 := ((f_X0_exponentBits a0) - 1023)
abbrev rmX0_exponentOf : Room := { frames := 1, cells := 0, slots := 0, locals := 21 }

def f_X0_powerOfTwo (a0 : Int32) : Int64 := (f_X0_nearest 1 (a0 - (-1074)))
abbrev rmX0_powerOfTwo : Room := { frames := 3, cells := 0, slots := 0, locals := 67 }

def f_X0_unitOf (a0 : Int64) : Int64 := (if (f_X0_hasNoEnd a0) = false then (f_X0_powerOfTwo ((-1074) + (f_X0_shift a0))) else 9218868437227405312)
abbrev rmX0_unitOf : Room := { frames := 4, cells := 0, slots := 0, locals := 87 }

def f_X0_leadOf (a0 : Int64) : Int32 := (((63 - (f_J13_numberOfLeadingZeros_95d88 (f_X0_whole a0))) + (f_X0_shift a0)) + (-1074))
abbrev rmX0_leadOf : Room := { frames := 2, cells := 0, slots := 0, locals := 44 }

def f_J9_floorMod_7cf53 (a0 : Int32) (a1 : Int32) : Option (Int32) := (if a1 = 0 then none else (if (a0 ^^^ a1) < 0 then (if (a0 - a0 / a1 * a1) = 0 then some (a0 - a0 / a1 * a1) else some ((a0 - a0 / a1 * a1) + a1)) else some (a0 - a0 / a1 * a1)))
abbrev rmJ9_floorMod_7cf53 : Room := { frames := 0, cells := 0, slots := 0, locals := 0 }

def f_X3_isWord (a0 : Int32) (a1 : Int32) : Bool := (if a0 = 117 then (if a1 < 0 then false else (if 15 < a1 then false else true)) else (if a0 = 100 then (if a1 < 0 then false else (if 15 < a1 then false else true)) else (if a0 = 120 then (if a1 < (-40) then false else (if 40 < a1 then false else true)) else (if a0 = 110 then (if a1 = 0 then true else false) else false))))
abbrev rmX3_isWord : Room := { frames := 0, cells := 0, slots := 0, locals := 0 }

def f_X3_done (a0 : Int32) (a1 : Int32) (a2 : Int64) : Int64 := (if a0 = 110 then (f_X0_opposite a2) else (if a0 = 120 then (f_X0_scaled a2 a1) else (if a0 = 117 then (if a1 < 0 then (f_X0_lowered a2 (-a1)) else (f_X0_raised a2 a1)) else (if (-a1) < 0 then (f_X0_lowered a2 (-(-a1))) else (f_X0_raised a2 (-a1))))))
abbrev rmX3_done : Room := { frames := 4, cells := 0, slots := 0, locals := 89 }

def f_X1_powerRest_L14 (a0 : Int32) (a1 : Int32)   : Nat → Int32 → Int64 → Int64 → Option (Int64)
  | 0, _, _, _ => none
  | n14 + 1, v14_6, v14_4, v14_2 => (if 0 < v14_6 then (if (v14_6 &&& 1) = 1 then (if (a1.toInt64) = 0 then none else (if (a1.toInt64) = 0 then none else (f_X1_powerRest_L14 a0 a1 n14 (v14_6 >>> (1 &&& 31)) ((v14_4 * v14_4) - (v14_4 * v14_4) / (a1.toInt64) * (a1.toInt64)) ((v14_2 * v14_4) - (v14_2 * v14_4) / (a1.toInt64) * (a1.toInt64))))) else (if (a1.toInt64) = 0 then none else (f_X1_powerRest_L14 a0 a1 n14 (v14_6 >>> (1 &&& 31)) ((v14_4 * v14_4) - (v14_4 * v14_4) / (a1.toInt64) * (a1.toInt64)) v14_2))) else some v14_2)
def f_X1_powerRest (a0 : Int32) (a1 : Int32) : Option (Int64) := (if a1 = 0 then none else (if a1 = 0 then none else (f_X1_powerRest_L14 a0 a1 100 a0 (((2 - 2 / a1 * a1) : Int32).toInt64) (((1 - 1 / a1 * a1) : Int32).toInt64))))
abbrev rmX1_powerRest : Room := { frames := 0, cells := 0, slots := 0, locals := 0 }

def f_X1_sizeRest (a0 : Int64) (a1 : Int32) : Option (Int32) := (if (a1.toInt64) = 0 then none else ((f_X1_powerRest (f_X0_shift a0) a1).bind fun r2 => (if (a1.toInt64) = 0 then none else some (((((f_X0_whole a0) - (f_X0_whole a0) / (a1.toInt64) * (a1.toInt64)) * r2) - (((f_X0_whole a0) - (f_X0_whole a0) / (a1.toInt64) * (a1.toInt64)) * r2) / (a1.toInt64) * (a1.toInt64)).toInt32))))
abbrev rmX1_sizeRest : Room := { frames := 2, cells := 0, slots := 0, locals := 44 }

def f_X1_signedRest (a0 : Int64) (a1 : Int32) : Option (Int32) := ((f_X1_sizeRest a0 a1).bind fun r1 => (if a0 < 0 then some (-r1) else some r1))
abbrev rmX1_signedRest : Room := { frames := 3, cells := 0, slots := 0, locals := 68 }

def f_X1_gapRest (a0 : Int64) (a1 : Int64) (a2 : Int32) : Option (Int32) := ((f_X1_signedRest a0 a2).bind fun r1 => ((f_X1_signedRest a1 a2).bind fun r2 => (if (f_X0_order a0 a1) < 0 then ((f_J9_floorMod_7cf53 (-(r1 - r2)) a2).bind fun r5 => some r5) else ((f_J9_floorMod_7cf53 (r1 - r2) a2).bind fun r4 => some r4))))
abbrev rmX1_gapRest : Room := { frames := 4, cells := 0, slots := 0, locals := 91 }

def f_X1_signedPart (a0 : Int64) (a1 : Int32) : Int64 := (if ((32 * a1) - (f_X0_shift a0)) < 0 then (if ((32 * a1) - (f_X0_shift a0)) < 0 then (if (-32) < ((32 * a1) - (f_X0_shift a0)) then (if a0 < 0 then (-((jshl (f_X0_whole a0) (-((32 * a1) - (f_X0_shift a0)))) &&& 4294967295)) else ((jshl (f_X0_whole a0) (-((32 * a1) - (f_X0_shift a0)))) &&& 4294967295)) else (if a0 < 0 then (-0) else 0)) else (if a0 < 0 then (-0) else 0)) else (if ((32 * a1) - (f_X0_shift a0)) < 64 then (if a0 < 0 then (-((jshr (f_X0_whole a0) ((32 * a1) - (f_X0_shift a0))) &&& 4294967295)) else ((jshr (f_X0_whole a0) ((32 * a1) - (f_X0_shift a0))) &&& 4294967295)) else (if ((32 * a1) - (f_X0_shift a0)) < 0 then (if (-32) < ((32 * a1) - (f_X0_shift a0)) then (if a0 < 0 then (-((jshl (f_X0_whole a0) (-((32 * a1) - (f_X0_shift a0)))) &&& 4294967295)) else ((jshl (f_X0_whole a0) (-((32 * a1) - (f_X0_shift a0)))) &&& 4294967295)) else (if a0 < 0 then (-0) else 0)) else (if a0 < 0 then (-0) else 0))))
abbrev rmX1_signedPart : Room := { frames := 2, cells := 0, slots := 0, locals := 44 }

def f_X1_signOfSum_L9 (a0 : Int64) (a1 : Int64) (a2 : Int64) (a3 : Int64)   : Nat → Int32 → Int32 → Int64 → Option (Int32)
  | 0, _, _, _ => none
  | n9 + 1, v9_11, v9_10, v9_8 => (if v9_11 < 66 then (if v9_10 = 0 then (if (((((v9_8 + (f_X1_signedPart a0 v9_11)) + (f_X1_signedPart a1 v9_11)) + (f_X1_signedPart a2 v9_11)) + (f_X1_signedPart a3 v9_11)) &&& 4294967295) = 0 then (f_X1_signOfSum_L9 a0 a1 a2 a3 n9 (v9_11 + 1) 0 (jshr ((((v9_8 + (f_X1_signedPart a0 v9_11)) + (f_X1_signedPart a1 v9_11)) + (f_X1_signedPart a2 v9_11)) + (f_X1_signedPart a3 v9_11)) 32)) else (f_X1_signOfSum_L9 a0 a1 a2 a3 n9 (v9_11 + 1) 1 (jshr ((((v9_8 + (f_X1_signedPart a0 v9_11)) + (f_X1_signedPart a1 v9_11)) + (f_X1_signedPart a2 v9_11)) + (f_X1_signedPart a3 v9_11)) 32))) else (f_X1_signOfSum_L9 a0 a1 a2 a3 n9 (v9_11 + 1) 1 (jshr ((((v9_8 + (f_X1_signedPart a0 v9_11)) + (f_X1_signedPart a1 v9_11)) + (f_X1_signedPart a2 v9_11)) + (f_X1_signedPart a3 v9_11)) 32))) else (if v9_8 < 0 then some (-1) else (if v9_10 = 0 then some 0 else some 1)))
def f_X1_signOfSum (a0 : Int64) (a1 : Int64) (a2 : Int64) (a3 : Int64) : Option (Int32) := (f_X1_signOfSum_L9 a0 a1 a2 a3 100 0 0 0)
abbrev rmX1_signOfSum : Room := { frames := 3, cells := 0, slots := 0, locals := 69 }

def f_X1_orderOfGaps (a0 : Int64) (a1 : Int64) (a2 : Int64) (a3 : Int64) : Option (Int32) := (if (f_X0_order a0 a1) < 0 then (if (f_X0_order a2 a3) < 0 then ((f_X1_signOfSum a1 (f_X0_opposite a0) (f_X0_opposite a3) a2).bind fun r7 => some r7) else ((f_X1_signOfSum a1 (f_X0_opposite a0) (f_X0_opposite a2) a3).bind fun r6 => some r6)) else (if (f_X0_order a2 a3) < 0 then ((f_X1_signOfSum a0 (f_X0_opposite a1) (f_X0_opposite a3) a2).bind fun r4 => some r4) else ((f_X1_signOfSum a0 (f_X0_opposite a1) (f_X0_opposite a2) a3).bind fun r3 => some r3)))
abbrev rmX1_orderOfGaps : Room := { frames := 4, cells := 0, slots := 0, locals := 102 }

def f_X4_stepsHold (a0 : Int64) : Bool := (if a0 = 9218868437227405312 then (if (f_X0_raised a0 1) = a0 then true else false) else (if (f_X0_placeOf (f_X0_raised a0 1)) = ((f_X0_placeOf a0) + 1) then (if (f_X0_order (f_X0_lowered (f_X0_raised a0 1) 1) a0) = 0 then true else false) else false))
abbrev rmX4_stepsHold : Room := { frames := 3, cells := 0, slots := 0, locals := 67 }

def f_X4_unitHolds (a0 : Int64) : Option (Bool) := (if (f_X0_hasNoEnd a0) = false then (if (f_X0_hasNoEnd (f_X0_raised (f_X0_sizeOf a0) 1)) = false then ((f_X1_signOfSum (f_X0_raised (f_X0_sizeOf a0) 1) (f_X0_opposite (f_X0_sizeOf a0)) (f_X0_opposite (f_X0_unitOf a0)) 0).bind fun r3 => (if r3 = 0 then some true else some false)) else some true) else (if (f_X0_unitOf a0) = 9218868437227405312 then some true else some false))
abbrev rmX4_unitHolds : Room := { frames := 5, cells := 0, slots := 0, locals := 108 }

def f_X4_powersHold (a0 : Int64) : Bool := (if (f_X0_isZero a0) = false then (if (f_X0_hasNoEnd a0) = false then (if (f_X0_leadOf a0) < (f_X0_tailOf a0) then false else (if 0 < (f_X0_order (f_X0_powerOfTwo (f_X0_leadOf a0)) (f_X0_sizeOf a0)) then false else (if (f_X0_order (f_X0_sizeOf a0) (f_X0_scaled (f_X0_powerOfTwo (f_X0_leadOf a0)) 1)) < 0 then (if (f_X0_hasNoEnd (f_X0_scaled a0 1)) = false then (if (f_X0_scaled (f_X0_scaled a0 1) (-1)) = a0 then true else false) else true) else false))) else (if (f_X0_scaled a0 1) = a0 then true else false)) else (if (f_X0_scaled a0 1) = a0 then true else false))
abbrev rmX4_powersHold : Room := { frames := 4, cells := 0, slots := 0, locals := 89 }

def f_X4_holdsAt (a0 : Int64) : Option (Bool) := (if (f_X4_stepsHold a0) = false then some false else (if (f_X4_stepsHold (f_X0_opposite a0)) = false then some false else ((f_X4_unitHolds a0).bind fun r3 => (if r3 = false then some false else (if (f_X4_powersHold a0) = false then some false else some true)))))
abbrev rmX4_holdsAt : Room := { frames := 6, cells := 0, slots := 0, locals := 135 }

def f_X4_stepHolds (a0 : Int64) (a1 : Int64) : Bool := (if (f_X0_order a0 a1) = 0 then (if (f_X0_nearer a0 a1) = a1 then true else false) else (if (f_X0_distance (f_X0_nearer a0 a1) a1) = ((f_X0_distance a0 a1) - 1) then true else false))
abbrev rmX4_stepHolds : Room := { frames := 4, cells := 0, slots := 0, locals := 91 }

def f_X4_holdsBetween (a0 : Int64) (a1 : Int64) : Bool := (if (f_X0_order a0 a1) = (-(f_X0_order a1 a0)) then (if (f_X4_stepHolds a0 a1) = false then false else true) else false)
abbrev rmX4_holdsBetween : Room := { frames := 5, cells := 0, slots := 0, locals := 116 }

def f_X6_in (a0 : Int32) (a1 : Int32) (a2 : Int32) : Bool := (if a0 < a1 then false else (if a2 < a0 then false else true))
abbrev rmX6_in : Room := { frames := 0, cells := 0, slots := 0, locals := 0 }

def f_X6_isSlot (a0 : Int32) : Bool := (f_X6_in a0 0 7)
abbrev rmX6_isSlot : Room := { frames := 1, cells := 0, slots := 0, locals := 22 }

def f_X6_size (a0 : Int64) : Int64 := (if a0 < 0 then ((-1) - a0) else a0)
abbrev rmX6_size : Room := { frames := 0, cells := 0, slots := 0, locals := 0 }

def f_X6_placeOf (a0 : Int64) : Int64 := (if a0 < 0 then (a0 + 1) else a0)
abbrev rmX6_placeOf : Room := { frames := 0, cells := 0, slots := 0, locals := 0 }

def f_X6_codeOf (a0 : Int64) : Int64 := (if a0 < 0 then (a0 - 1) else a0)
abbrev rmX6_codeOf : Room := { frames := 0, cells := 0, slots := 0, locals := 0 }

def f_X6_opposite (a0 : Int64) : Int64 := ((-1) - a0)
abbrev rmX6_opposite : Room := { frames := 0, cells := 0, slots := 0, locals := 0 }

def f_X6_isEnd (a0 : Int64) : Bool := (if (f_X6_size a0) = 9218868437227405312 then true else false)
abbrev rmX6_isEnd : Room := { frames := 1, cells := 0, slots := 0, locals := 21 }

def f_X6_isNothing (a0 : Int64) : Bool := (if (f_X6_size a0) = 0 then true else false)
abbrev rmX6_isNothing : Room := { frames := 1, cells := 0, slots := 0, locals := 21 }

def f_X6_above (a0 : Int64) : Int64 := (if (f_X6_placeOf a0) = 9218868437227405312 then a0 else (if (f_X6_placeOf a0) = (-1) then (-1) else (f_X6_codeOf ((f_X6_placeOf a0) + 1))))
abbrev rmX6_above : Room := { frames := 1, cells := 0, slots := 0, locals := 21 }

def f_X6_below (a0 : Int64) : Int64 := (f_X6_opposite (f_X6_above (f_X6_opposite a0)))
abbrev rmX6_below : Room := { frames := 2, cells := 0, slots := 0, locals := 44 }

def f_X6_nearer (a0 : Int64) (a1 : Int64) : Int64 := (if (f_X6_placeOf a0) = (f_X6_placeOf a1) then a1 else (if (f_X6_placeOf a0) < (f_X6_placeOf a1) then (f_X6_above a0) else (f_X6_below a0)))
abbrev rmX6_nearer : Room := { frames := 3, cells := 0, slots := 0, locals := 65 }

def f_X6_areApart (a0 : Int64) (a1 : Int64) : Bool := (if a1 < a0 then (if a1 < (a0 - 1) then true else false) else (if a0 < (a1 - 1) then true else false))
abbrev rmX6_areApart : Room := { frames := 0, cells := 0, slots := 0, locals := 0 }

def f_X6_middleOf (a0 : Int64) (a1 : Int64) : Int64 := ((a0 &&& a1) + (jshr (a0 ^^^ a1) 1))
abbrev rmX6_middleOf : Room := { frames := 0, cells := 0, slots := 0, locals := 0 }

def f_X6_whole (a0 : Int64) : Int64 := (if a0 < 4503599627370496 then a0 else (4503599627370496 + (a0 - a0 / 4503599627370496 * 4503599627370496)))
abbrev rmX6_whole : Room := { frames := 0, cells := 0, slots := 0, locals := 0 }

def f_X6_shift (a0 : Int64) : Int32 := (if a0 < 4503599627370496 then 0 else (((a0 / 4503599627370496).toInt32) - 1))
abbrev rmX6_shift : Room := { frames := 0, cells := 0, slots := 0, locals := 0 }

def f_X6_made_L81 (a0 : Int64) (a1 : Int32)   : Nat → Int32 → Int64 → Option (Int64)
  | 0, _, _ => none
  | n81 + 1, v81_5, v81_3 => (if v81_3 < 4503599627370496 then (if 0 < v81_5 then (f_X6_made_L81 a0 a1 n81 (v81_5 + (-1)) (v81_3 + v81_3)) else (if v81_3 < 4503599627370496 then some v81_3 else (if v81_5 < 2046 then some ((((v81_5 + 1).toInt64) * 4503599627370496) + (v81_3 - 4503599627370496)) else some 9218868437227405312))) else (if v81_3 < 4503599627370496 then some v81_3 else (if v81_5 < 2046 then some ((((v81_5 + 1).toInt64) * 4503599627370496) + (v81_3 - 4503599627370496)) else some 9218868437227405312)))
def f_X6_made (a0 : Int64) (a1 : Int32) : Option (Int64) := (if a1 < (-62) then some 0 else (if a1 < 0 then (if (jshl 1 (-a1)) = 0 then none else (if (jshl 1 (-a1)) = 0 then none else (if (jshl 1 (-a1)) < ((a0 - a0 / (jshl 1 (-a1)) * (jshl 1 (-a1))) + (a0 - a0 / (jshl 1 (-a1)) * (jshl 1 (-a1)))) then some ((a0 / (jshl 1 (-a1))) + 1) else (if ((a0 - a0 / (jshl 1 (-a1)) * (jshl 1 (-a1))) + (a0 - a0 / (jshl 1 (-a1)) * (jshl 1 (-a1)))) = (jshl 1 (-a1)) then (if ((a0 / (jshl 1 (-a1))) - (a0 / (jshl 1 (-a1))) / 2 * 2) = 1 then some ((a0 / (jshl 1 (-a1))) + 1) else some (a0 / (jshl 1 (-a1)))) else some (a0 / (jshl 1 (-a1))))))) else (f_X6_made_L81 a0 a1 100 a1 a0)))
abbrev rmX6_made : Room := { frames := 0, cells := 0, slots := 0, locals := 0 }

def f_X6_scaled (a0 : Int64) (a1 : Int32) : Option (Int64) := (if (f_X6_size a0) = 0 then some a0 else (if (f_X6_size a0) = 9218868437227405312 then some a0 else ((f_X6_made (f_X6_whole (f_X6_size a0)) ((f_X6_shift (f_X6_size a0)) + a1)).bind fun r3 => (if a0 < 0 then some (f_X6_opposite r3) else some r3))))
abbrev rmX6_scaled : Room := { frames := 1, cells := 0, slots := 0, locals := 31 }

def f_X6_bits_L4 (a0 : Int64)   : Nat → Int64 → Int32 → Option (Int32)
  | 0, _, _ => none
  | n4 + 1, v4_3, v4_2 => (if 0 < v4_3 then (f_X6_bits_L4 a0 n4 (v4_3 / 2) (v4_2 + 1)) else some v4_2)
def f_X6_bits (a0 : Int64) : Option (Int32) := (f_X6_bits_L4 a0 100 a0 0)
abbrev rmX6_bits : Room := { frames := 0, cells := 0, slots := 0, locals := 0 }

def f_X6_leadOf (a0 : Int64) : Option (Int32) := ((f_X6_bits (f_X6_whole a0)).bind fun r1 => some (((r1 - 1) + (f_X6_shift a0)) - 1074))
abbrev rmX6_leadOf : Room := { frames := 1, cells := 0, slots := 0, locals := 24 }

def f_X6_tailOf_L7 (a0 : Int64)   : Nat → Int64 → Int32 → Option (Int32)
  | 0, _, _ => none
  | n7 + 1, v7_3, v7_2 => (if (v7_3 - v7_3 / 2 * 2) = 0 then (f_X6_tailOf_L7 a0 n7 (v7_3 / 2) (v7_2 + 1)) else some ((v7_2 + (f_X6_shift a0)) - 1074))
def f_X6_tailOf (a0 : Int64) : Option (Int32) := (f_X6_tailOf_L7 a0 100 (f_X6_whole a0) 0)
abbrev rmX6_tailOf : Room := { frames := 1, cells := 0, slots := 0, locals := 21 }

def f_X6_exponentOf (a0 : Int64) : Int32 := ((((f_X6_size a0) / 4503599627370496).toInt32) - 1023)
abbrev rmX6_exponentOf : Room := { frames := 1, cells := 0, slots := 0, locals := 21 }

def f_X6_unitOf (a0 : Int64) : Option (Int64) := (if (f_X6_isEnd a0) = false then (if (f_X6_exponentOf a0) < (-1022) then ((f_X6_made 1 ((-1022) + 1022)).bind fun r4 => some r4) else ((f_X6_made 1 ((f_X6_exponentOf a0) + 1022)).bind fun r3 => some r3)) else some 9218868437227405312)
abbrev rmX6_unitOf : Room := { frames := 2, cells := 0, slots := 0, locals := 42 }

def f_X6_bitsOf (a0 : Int64) : Int64 := (if a0 < 0 then ((-9223372036854775808) - (f_X6_placeOf a0)) else a0)
abbrev rmX6_bitsOf : Room := { frames := 1, cells := 0, slots := 0, locals := 21 }

def f_X6_isLittle (a0 : Int64) : Bool := (if (f_X6_size a0) < 4503599627370496 then true else false)
abbrev rmX6_isLittle : Room := { frames := 1, cells := 0, slots := 0, locals := 21 }

def f_X6_rest_L20 (a0 : Int64) (a1 : Int32)   : Nat → Int32 → Int64 → Option (Int64)
  | 0, _, _ => none
  | n20 + 1, v20_5, v20_3 => (if 0 < v20_5 then (if (a1.toInt64) = 0 then none else (f_X6_rest_L20 a0 a1 n20 (v20_5 + (-1)) ((v20_3 + v20_3) - (v20_3 + v20_3) / (a1.toInt64) * (a1.toInt64)))) else some v20_3)
def f_X6_rest (a0 : Int64) (a1 : Int32) : Option (Int64) := (if (a1.toInt64) = 0 then none else (f_X6_rest_L20 a0 a1 3000 (f_X6_shift (f_X6_size a0)) ((f_X6_whole (f_X6_size a0)) - (f_X6_whole (f_X6_size a0)) / (a1.toInt64) * (a1.toInt64))))
abbrev rmX6_rest : Room := { frames := 1, cells := 0, slots := 0, locals := 21 }

def f_X6_restOf (a0 : Int64) (a1 : Int32) : Option (Int64) := (if a0 < 0 then ((f_X6_rest a0 a1).bind fun r2 => (if (a1.toInt64) = 0 then none else some (((a1.toInt64) - r2) - ((a1.toInt64) - r2) / (a1.toInt64) * (a1.toInt64)))) else ((f_X6_rest a0 a1).bind fun r4 => some r4))
abbrev rmX6_restOf : Room := { frames := 2, cells := 0, slots := 0, locals := 46 }

def f_X6_isWord (a0 : Int32) (a1 : Int32) : Bool := (if a0 = 110 then (if a1 = 0 then true else false) else (if a0 = 120 then (f_X6_in a1 (-40) 40) else (if a0 = 117 then (if (f_X6_in a1 0 15) = false then false else true) else (if a0 = 100 then (if (f_X6_in a1 0 15) = false then false else true) else false))))
abbrev rmX6_isWord : Room := { frames := 1, cells := 0, slots := 0, locals := 22 }

def f_X2_isEmpty (u : StP) : Bool := (if u.2.2.2 = 0 then true else false)
abbrev rmX2_isEmpty : Room := { frames := 0, cells := 0, slots := 0, locals := 0 }

def f_X2_keep (u : StP) (a0 : Int32) (a1 : Int64) : Option (StP) := (if (((u.2.2.1 + 1) - (u.2.2.1 + 1) / 8 * 8) < 0 ∨ 8 ≤ ((u.2.2.1 + 1) - (u.2.2.1 + 1) / 8 * 8).toNatClampNeg) then none else (if (((u.2.2.1 + 1) - (u.2.2.1 + 1) / 8 * 8) < 0 ∨ 8 ≤ ((u.2.2.1 + 1) - (u.2.2.1 + 1) / 8 * 8).toNatClampNeg) then none else some ((upd u.1 ((u.2.2.1 + 1) - (u.2.2.1 + 1) / 8 * 8).toNatClampNeg a0), ((vp_updL u.2.1 ((u.2.2.1 + 1) - (u.2.2.1 + 1) / 8 * 8).toNatClampNeg a1), (((u.2.2.1 + 1) - (u.2.2.1 + 1) / 8 * 8), (if 8 < (u.2.2.2 + 1) then 8 else (u.2.2.2 + 1)))))))
abbrev rmX2_keep : Room := { frames := 1, cells := 0, slots := 0, locals := 21 }

def f_X2_latestSlot (u : StP) : Option (Int32) := (if (u.2.2.1 < 0 ∨ 8 ≤ u.2.2.1.toNatClampNeg) then none else some (u.1 u.2.2.1.toNatClampNeg))
abbrev rmX2_latestSlot : Room := { frames := 0, cells := 0, slots := 0, locals := 0 }

def f_X2_latestNumber (u : StP) : Option (Int64) := (if (u.2.2.1 < 0 ∨ 8 ≤ u.2.2.1.toNatClampNeg) then none else some (u.2.1 u.2.2.1.toNatClampNeg))
abbrev rmX2_latestNumber : Room := { frames := 0, cells := 0, slots := 0, locals := 0 }

def f_X2_forgetLatest (u : StP) : Option (StP) := some (u.1, (u.2.1, ((((u.2.2.1 + 8) - 1) - ((u.2.2.1 + 8) - 1) / 8 * 8), (u.2.2.2 - 1))))
abbrev rmX2_forgetLatest : Room := { frames := 0, cells := 0, slots := 0, locals := 0 }

def f_X3_size (u : StR) : Int32 := u.2.2
abbrev rmX3_size : Room := { frames := 0, cells := 0, slots := 0, locals := 0 }

def f_X3_isFull (u : StR) : Bool := (if u.2.2 < 40 then false else true)
abbrev rmX3_isFull : Room := { frames := 0, cells := 0, slots := 0, locals := 0 }

def f_X3_add (u : StR) (a0 : Int32) (a1 : Int32) : Option (StR) := (if (f_X3_isFull u) = false then (if (u.2.2 < 0 ∨ 40 ≤ u.2.2.toNatClampNeg) then none else (if (u.2.2 < 0 ∨ 40 ≤ u.2.2.toNatClampNeg) then none else some ((upd u.1 u.2.2.toNatClampNeg (vp_nar .char a0)), ((upd u.2.1 u.2.2.toNatClampNeg a1), (u.2.2 + 1))))) else some u)
abbrev rmX3_add : Room := { frames := 1, cells := 0, slots := 0, locals := 20 }

def f_X3_clear (u : StR) : Option (StR) := some (u.1, (u.2.1, 0))
abbrev rmX3_clear : Room := { frames := 0, cells := 0, slots := 0, locals := 0 }

def f_X3_playedOn_L5 (u : StR) (a0 : Int64)   : Nat → Int32 → Int64 → Option (Int64)
  | 0, _, _ => none
  | n5 + 1, v5_5, v5_3 => (if v5_5 < u.2.2 then (if (v5_5 < 0 ∨ 40 ≤ v5_5.toNatClampNeg) then none else (if (v5_5 < 0 ∨ 40 ≤ v5_5.toNatClampNeg) then none else (f_X3_playedOn_L5 u a0 n5 (v5_5 + 1) (f_X3_done (u.1 v5_5.toNatClampNeg) (u.2.1 v5_5.toNatClampNeg) v5_3)))) else some v5_3)
def f_X3_playedOn (u : StR) (a0 : Int64) : Option (Int64) := (f_X3_playedOn_L5 u a0 100 0 a0)
abbrev rmX3_playedOn : Room := { frames := 5, cells := 0, slots := 0, locals := 113 }

def f_X3_playedBackOn_L10 (u : StR) (a0 : Int64)   : Nat → Int32 → Int64 → Option (Int64)
  | 0, _, _ => none
  | n10 + 1, v10_5, v10_3 => (if v10_5 < 0 then some v10_3 else (if (v10_5 < 0 ∨ 40 ≤ v10_5.toNatClampNeg) then none else (if (v10_5 < 0 ∨ 40 ≤ v10_5.toNatClampNeg) then none else (f_X3_playedBackOn_L10 u a0 n10 (v10_5 + (-1)) (f_X3_done (u.1 v10_5.toNatClampNeg) (-(u.2.1 v10_5.toNatClampNeg)) v10_3)))))
def f_X3_playedBackOn (u : StR) (a0 : Int64) : Option (Int64) := (f_X3_playedBackOn_L10 u a0 100 (u.2.2 - 1) a0)
abbrev rmX3_playedBackOn : Room := { frames := 5, cells := 0, slots := 0, locals := 113 }

def f_X3_leadsHome (u : StR) (a0 : Int64) : Option (Bool) := ((f_X3_playedOn u a0).bind fun r1 => ((f_X3_playedBackOn u r1).bind fun r2 => (if r2 = a0 then some true else some false)))
abbrev rmX3_leadsHome : Room := { frames := 6, cells := 0, slots := 0, locals := 138 }

def f_X3_lossesFrom_L8 (u : StR) (a0 : Int64)   : Nat → Int32 → Int64 → Int32 → Option (Int32)
  | 0, _, _, _ => none
  | n8 + 1, v8_6, v8_4, v8_3 => (if v8_6 < u.2.2 then (if (v8_6 < 0 ∨ 40 ≤ v8_6.toNatClampNeg) then none else (if (v8_6 < 0 ∨ 40 ≤ v8_6.toNatClampNeg) then none else (if (v8_6 < 0 ∨ 40 ≤ v8_6.toNatClampNeg) then none else (if (v8_6 < 0 ∨ 40 ≤ v8_6.toNatClampNeg) then none else (if (f_X3_done (u.1 v8_6.toNatClampNeg) (-(u.2.1 v8_6.toNatClampNeg)) (f_X3_done (u.1 v8_6.toNatClampNeg) (u.2.1 v8_6.toNatClampNeg) v8_4)) = v8_4 then (f_X3_lossesFrom_L8 u a0 n8 (v8_6 + 1) (f_X3_done (u.1 v8_6.toNatClampNeg) (u.2.1 v8_6.toNatClampNeg) v8_4) v8_3) else (f_X3_lossesFrom_L8 u a0 n8 (v8_6 + 1) (f_X3_done (u.1 v8_6.toNatClampNeg) (u.2.1 v8_6.toNatClampNeg) v8_4) (v8_3 + 1))))))) else some v8_3)
def f_X3_lossesFrom (u : StR) (a0 : Int64) : Option (Int32) := (f_X3_lossesFrom_L8 u a0 100 0 a0 0)
abbrev rmX3_lossesFrom : Room := { frames := 5, cells := 0, slots := 0, locals := 113 }

def f_X3_addedTo_L15 (u : StR) (a0 : Int64)   : Nat → Int32 → Int64 → Option (Int64)
  | 0, _, _ => none
  | n15 + 1, v15_5, v15_3 => (if v15_5 < u.2.2 then (if (v15_5 < 0 ∨ 40 ≤ v15_5.toNatClampNeg) then none else (if (v15_5 < 0 ∨ 40 ≤ v15_5.toNatClampNeg) then none else (f_X3_addedTo_L15 u a0 n15 (v15_5 + 1) ((31 * ((31 * v15_3) + ((u.1 v15_5.toNatClampNeg).toInt64))) + ((u.2.1 v15_5.toNatClampNeg).toInt64))))) else some v15_3)
def f_X3_addedTo (u : StR) (a0 : Int64) : Option (Int64) := (f_X3_addedTo_L15 u a0 100 0 ((31 * a0) + (u.2.2.toInt64)))
abbrev rmX3_addedTo : Room := { frames := 0, cells := 0, slots := 0, locals := 0 }

def f_X5_least_L4 (u : StX)   : Nat → Int32 → Int32 → Option (Int32)
  | 0, _, _ => none
  | n4 + 1, v4_2, v4_1 => (if v4_2 < 8 then (if (v4_2 < 0 ∨ 8 ≤ v4_2.toNatClampNeg) then none else (if (v4_1 < 0 ∨ 8 ≤ v4_1.toNatClampNeg) then none else (if (f_X0_order (u.1 v4_2.toNatClampNeg) (u.1 v4_1.toNatClampNeg)) < 0 then (f_X5_least_L4 u n4 (v4_2 + 1) v4_2) else (f_X5_least_L4 u n4 (v4_2 + 1) v4_1)))) else some v4_1)
def f_X5_least (u : StX) : Option (Int32) := (f_X5_least_L4 u 100 1 0)
abbrev rmX5_least : Room := { frames := 2, cells := 0, slots := 0, locals := 46 }

def f_X5_hush (u : StX) : Option (Int32 × StX) := ((f_X3_clear u.2.1).bind fun z1 => some ((f_X3_size u.2.1), (u.1, (z1, u.2.2))))
abbrev rmX5_hush : Room := { frames := 1, cells := 0, slots := 0, locals := 20 }

def f_X5_share_L4 (u : StX)   : Nat → Int32 → Int32 → Option (UInt32)
  | 0, _, _ => none
  | n4 + 1, v4_2, v4_1 => (if v4_2 < 8 then (if (v4_2 < 0 ∨ 8 ≤ v4_2.toNatClampNeg) then none else (if (f_X0_hasLeastExponent (u.1 v4_2.toNatClampNeg)) = false then (f_X5_share_L4 u n4 (v4_2 + 1) v4_1) else (f_X5_share_L4 u n4 (v4_2 + 1) (v4_1 + 1)))) else (if ¬ ((FP.fdiv (FP.i2f v4_1) 1090519040) &&& 0x7fffffff ≤ 0x7f800000) then none else some (FP.fdiv (FP.i2f v4_1) 1090519040)))
def f_X5_share (u : StX) : Option (UInt32) := (f_X5_share_L4 u 100 0 0)
abbrev rmX5_share : Room := { frames := 2, cells := 0, slots := 0, locals := 42 }

def f_X5_meanExponent_L4 (u : StX)   : Nat → Int32 → Int32 → Option (UInt64)
  | 0, _, _ => none
  | n4 + 1, v4_2, v4_1 => (if v4_2 < 8 then (if (v4_2 < 0 ∨ 8 ≤ v4_2.toNatClampNeg) then none else (f_X5_meanExponent_L4 u n4 (v4_2 + 1) (v4_1 + (f_X0_exponentOf (u.1 v4_2.toNatClampNeg))))) else (if ¬ ((FP.ddiv (FP.i2d v4_1) 4620693217682128896) &&& 0x7fffffffffffffff ≤ 0x7ff0000000000000) then none else some (FP.ddiv (FP.i2d v4_1) 4620693217682128896)))
def f_X5_meanExponent (u : StX) : Option (UInt64) := (f_X5_meanExponent_L4 u 100 0 0)
abbrev rmX5_meanExponent : Room := { frames := 2, cells := 0, slots := 0, locals := 42 }

def f_X5_checksum_L6 (u : StX)   : Nat → Int32 → Int64 → Option (Int64)
  | 0, _, _ => none
  | n6 + 1, v6_3, v6_1 => (if v6_3 < 8 then (if (v6_3 < 0 ∨ 8 ≤ v6_3.toNatClampNeg) then none else (f_X5_checksum_L6 u n6 (v6_3 + 1) ((31 * v6_1) + (u.1 v6_3.toNatClampNeg)))) else ((f_X3_addedTo u.2.1 v6_1).bind fun r2 => some r2))
def f_X5_checksum (u : StX) : Option (Int64) := (f_X5_checksum_L6 u 100 0 7)
abbrev rmX5_checksum : Room := { frames := 1, cells := 0, slots := 0, locals := 25 }

def f_X5_isSound_L56 (u : StX)  (k2 : Int32 → Option (Bool)) : Nat → Int32 → Int32 → Option (Bool)
  | 0, _, _ => none
  | n56 + 1, v56_2, v56_1 => (if v56_2 < 8 then (if (v56_1 < 0 ∨ 8 ≤ v56_1.toNatClampNeg) then none else (if (v56_2 < 0 ∨ 8 ≤ v56_2.toNatClampNeg) then none else (if (f_X4_holdsBetween (u.1 v56_1.toNatClampNeg) (u.1 v56_2.toNatClampNeg)) = false then some false else (f_X5_isSound_L56 u k2 n56 (v56_2 + 1) v56_1)))) else (k2 (v56_1 + 1)))
def f_X5_isSound_L2 (u : StX)   : Nat → Int32 → Option (Bool)
  | 0, _ => none
  | n2 + 1, v2_1 => (if v2_1 < 8 then (if (v2_1 < 0 ∨ 8 ≤ v2_1.toNatClampNeg) then none else ((f_X4_holdsAt (u.1 v2_1.toNatClampNeg)).bind fun r3 => (if r3 = false then some false else (if (v2_1 < 0 ∨ 8 ≤ v2_1.toNatClampNeg) then none else ((f_X3_lossesFrom u.2.1 (u.1 v2_1.toNatClampNeg)).bind fun r6 => (if r6 = 0 then (if (v2_1 < 0 ∨ 8 ≤ v2_1.toNatClampNeg) then none else ((f_X3_leadsHome u.2.1 (u.1 v2_1.toNatClampNeg)).bind fun r13 => (if r13 = false then some false else (f_X5_isSound_L56 u (f_X5_isSound_L2 u n2) 100 0 v2_1)))) else (f_X5_isSound_L56 u (f_X5_isSound_L2 u n2) 100 0 v2_1))))))) else some true)
def f_X5_isSound (u : StX) : Option (Bool) := (f_X5_isSound_L2 u 100 0)
abbrev rmX5_isSound : Room := { frames := 7, cells := 0, slots := 0, locals := 160 }

def f_X5_become (u : StX) (a0 : Int32) (a1 : Int64) : Option (Int64 × StX) := (if (a0 < 0 ∨ 8 ≤ a0.toNatClampNeg) then none else ((f_X2_keep u.2.2 a0 (u.1 a0.toNatClampNeg)).bind fun z2 => (if (a0 < 0 ∨ 8 ≤ a0.toNatClampNeg) then none else some ((f_X0_placeOf a1), ((vp_updL u.1 a0.toNatClampNeg a1), (u.2.1, z2))))))
abbrev rmX5_become : Room := { frames := 2, cells := 0, slots := 0, locals := 44 }

def f_X5_checkSlot (a0 : Int32) : Option ((String ⊕ Unit)) := (if a0 < 0 then some (.inl "java/lang/IndexOutOfBoundsException") else (if a0 < 8 then some (.inr ()) else some (.inl "java/lang/IndexOutOfBoundsException")))
abbrev rmX5_checkSlot : Room := { frames := 6, cells := 1, slots := 6, locals := 90 }

def f_X5_checkRange (a0 : Int32) (a1 : Int32) (a2 : Int32) : Option ((String ⊕ Unit)) := (if a0 < a1 then some (.inl "java/lang/IllegalArgumentException") else (if a2 < a0 then some (.inl "java/lang/IllegalArgumentException") else some (.inr ())))
abbrev rmX5_checkRange : Room := { frames := 6, cells := 1, slots := 6, locals := 90 }

def f_X5_checkHasPowers (a0 : Int64) : Option ((String ⊕ Unit)) := (if (f_X0_isZero a0) = false then (if (f_X0_hasNoEnd a0) = false then some (.inr ()) else some (.inl "java/lang/ArithmeticException")) else some (.inl "java/lang/ArithmeticException"))
abbrev rmX5_checkHasPowers : Room := { frames := 6, cells := 1, slots := 6, locals := 90 }

def f_X5_checkHasEnd (a0 : Int64) : Option ((String ⊕ Unit)) := (if (f_X0_hasNoEnd a0) = false then some (.inr ()) else some (.inl "java/lang/IllegalStateException"))
abbrev rmX5_checkHasEnd : Room := { frames := 6, cells := 1, slots := 6, locals := 90 }

def f_X5_set (u : StX) (a0 : Int32) (a1 : Int32) (a2 : Int32) : Option ((String ⊕ (Int64 × StX))) := (xb (f_X5_checkSlot a0) fun _ => (xb (f_X5_checkRange a1 (-128) 127) fun _ => (xb (f_X5_checkRange a2 0 255) fun _ => ((f_X5_become u a0 (f_X0_handed a1 a2)).bind fun z4 => some (.inr z4)))))
abbrev rmX5_set : Room := { frames := 7, cells := 3, slots := 18, locals := 112 }

def f_X5_end (u : StX) (a0 : Int32) (a1 : Bool) : Option ((String ⊕ (Int64 × StX))) := (xb (f_X5_checkSlot a0) fun _ => (if a1 = false then ((f_X5_become u a0 (f_X0_opposite 9218868437227405312)).bind fun z3 => some (.inr z3)) else ((f_X5_become u a0 9218868437227405312).bind fun z4 => some (.inr z4))))
abbrev rmX5_end : Room := { frames := 7, cells := 1, slots := 6, locals := 110 }

def f_X5_copy (u : StX) (a0 : Int32) (a1 : Int32) : Option ((String ⊕ (Int64 × StX))) := (xb (f_X5_checkSlot a0) fun _ => (xb (f_X5_checkSlot a1) fun _ => (if (a0 < 0 ∨ 8 ≤ a0.toNatClampNeg) then none else ((f_X5_become u a1 (u.1 a0.toNatClampNeg)).bind fun z4 => some (.inr z4)))))
abbrev rmX5_copy : Room := { frames := 7, cells := 2, slots := 12, locals := 110 }

def f_X5_negate (u : StX) (a0 : Int32) (a1 : Int32) : Option ((String ⊕ (Int64 × StX))) := (xb (f_X5_checkSlot a0) fun _ => (xb (f_X5_checkSlot a1) fun _ => (if (a0 < 0 ∨ 8 ≤ a0.toNatClampNeg) then none else ((f_X5_become u a1 (f_X0_opposite (u.1 a0.toNatClampNeg))).bind fun z4 => some (.inr z4)))))
abbrev rmX5_negate : Room := { frames := 7, cells := 2, slots := 12, locals := 110 }

def f_X5_place (u : StX) (a0 : Int32) : Option ((String ⊕ Int64)) := (xb (f_X5_checkSlot a0) fun _ => (if (a0 < 0 ∨ 8 ≤ a0.toNatClampNeg) then none else some (.inr (f_X0_placeOf (u.1 a0.toNatClampNeg)))))
abbrev rmX5_place : Room := { frames := 7, cells := 1, slots := 6, locals := 110 }

def f_X5_bits (u : StX) (a0 : Int32) : Option ((String ⊕ Int64)) := (xb (f_X5_checkSlot a0) fun _ => (if (a0 < 0 ∨ 8 ≤ a0.toNatClampNeg) then none else some (.inr (u.1 a0.toNatClampNeg))))
abbrev rmX5_bits : Room := { frames := 7, cells := 1, slots := 6, locals := 110 }

def f_X5_isEndless (u : StX) (a0 : Int32) : Option ((String ⊕ Bool)) := (xb (f_X5_checkSlot a0) fun _ => (if (a0 < 0 ∨ 8 ≤ a0.toNatClampNeg) then none else some (.inr (f_X0_hasNoEnd (u.1 a0.toNatClampNeg)))))
abbrev rmX5_isEndless : Room := { frames := 7, cells := 1, slots := 6, locals := 110 }

def f_X5_isWhole (u : StX) (a0 : Int32) : Option ((String ⊕ Bool)) := (xb (f_X5_checkSlot a0) fun _ => (if (a0 < 0 ∨ 8 ≤ a0.toNatClampNeg) then none else some (.inr (f_X0_hasNoFraction (u.1 a0.toNatClampNeg)))))
abbrev rmX5_isWhole : Room := { frames := 7, cells := 1, slots := 6, locals := 110 }

def f_X5_isSmall (u : StX) (a0 : Int32) : Option ((String ⊕ Bool)) := (xb (f_X5_checkSlot a0) fun _ => (if (a0 < 0 ∨ 8 ≤ a0.toNatClampNeg) then none else some (.inr (f_X0_hasLeastExponent (u.1 a0.toNatClampNeg)))))
abbrev rmX5_isSmall : Room := { frames := 7, cells := 1, slots := 6, locals := 110 }

def f_X5_up (u : StX) (a0 : Int32) (a1 : Int32) : Option ((String ⊕ (Int32 × StX))) := (xb (f_X5_checkSlot a0) fun _ => (xb (f_X5_checkRange a1 0 64) fun _ => (if (a0 < 0 ∨ 8 ≤ a0.toNatClampNeg) then none else ((f_X5_become u a0 (f_X0_raised (u.1 a0.toNatClampNeg) a1)).bind fun z4 => some (.inr (((z4.1 - (f_X0_placeOf (u.1 a0.toNatClampNeg))).toInt32), z4.2))))))
abbrev rmX5_up : Room := { frames := 7, cells := 2, slots := 12, locals := 112 }

def f_X5_down (u : StX) (a0 : Int32) (a1 : Int32) : Option ((String ⊕ (Int32 × StX))) := (xb (f_X5_checkSlot a0) fun _ => (xb (f_X5_checkRange a1 0 64) fun _ => (if (a0 < 0 ∨ 8 ≤ a0.toNatClampNeg) then none else ((f_X5_become u a0 (f_X0_lowered (u.1 a0.toNatClampNeg) a1)).bind fun z4 => some (.inr ((((f_X0_placeOf (u.1 a0.toNatClampNeg)) - z4.1).toInt32), z4.2))))))
abbrev rmX5_down : Room := { frames := 7, cells := 2, slots := 12, locals := 112 }

def f_X5_toward_L37 (u : StX) (a0 : Int32) (a1 : Int32) (a2 : Int32)   : Nat → Int32 → Int32 → Int64 → Int64 → Option ((String ⊕ (Int32 × StX)))
  | 0, _, _, _, _ => none
  | n37 + 1, v37_9, v37_8, v37_6, v37_4 => (if v37_9 < a2 then (if (f_X0_nearer v37_6 v37_4) = v37_6 then (f_X5_toward_L37 u a0 a1 a2 n37 (v37_9 + 1) v37_8 (f_X0_nearer v37_6 v37_4) v37_4) else (f_X5_toward_L37 u a0 a1 a2 n37 (v37_9 + 1) (v37_8 + 1) (f_X0_nearer v37_6 v37_4) v37_4)) else ((f_X5_become u a0 v37_6).bind fun z7 => some (.inr (v37_8, z7.2))))
def f_X5_toward (u : StX) (a0 : Int32) (a1 : Int32) (a2 : Int32) : Option ((String ⊕ (Int32 × StX))) := (xb (f_X5_checkSlot a0) fun _ => (xb (f_X5_checkSlot a1) fun _ => (xb (f_X5_checkRange a2 0 64) fun _ => (if (a1 < 0 ∨ 8 ≤ a1.toNatClampNeg) then none else (if (a0 < 0 ∨ 8 ≤ a0.toNatClampNeg) then none else (f_X5_toward_L37 u a0 a1 a2 100 0 0 (u.1 a0.toNatClampNeg) (u.1 a1.toNatClampNeg)))))))
abbrev rmX5_toward : Room := { frames := 7, cells := 3, slots := 18, locals := 112 }

def f_X5_walk (u : StX) (a0 : Int32) (a1 : Int32) : Option ((String ⊕ Int32)) := (xb (f_X5_checkSlot a0) fun _ => (xb (f_X5_checkSlot a1) fun _ => (if (a0 < 0 ∨ 8 ≤ a0.toNatClampNeg) then none else (if (a1 < 0 ∨ 8 ≤ a1.toNatClampNeg) then none else (if (f_X0_isMoreThan (f_X0_distance (u.1 a0.toNatClampNeg) (u.1 a1.toNatClampNeg)) 64) = false then some (.inr ((f_X0_distance (u.1 a0.toNatClampNeg) (u.1 a1.toNatClampNeg)).toInt32)) else some (.inr (-1)))))))
abbrev rmX5_walk : Room := { frames := 7, cells := 2, slots := 12, locals := 110 }

def f_X5_apart (u : StX) (a0 : Int32) (a1 : Int32) : Option ((String ⊕ Int64)) := (xb (f_X5_checkSlot a0) fun _ => (xb (f_X5_checkSlot a1) fun _ => (if (a0 < 0 ∨ 8 ≤ a0.toNatClampNeg) then none else (if (a1 < 0 ∨ 8 ≤ a1.toNatClampNeg) then none else some (.inr (f_X0_distance (u.1 a0.toNatClampNeg) (u.1 a1.toNatClampNeg)))))))
abbrev rmX5_apart : Room := { frames := 7, cells := 2, slots := 12, locals := 110 }

def f_X5_areNext (u : StX) (a0 : Int32) (a1 : Int32) : Option ((String ⊕ Bool)) := (xb (f_X5_checkSlot a0) fun _ => (xb (f_X5_checkSlot a1) fun _ => (if (a0 < 0 ∨ 8 ≤ a0.toNatClampNeg) then none else (if (a1 < 0 ∨ 8 ≤ a1.toNatClampNeg) then none else (if (f_X0_distance (u.1 a0.toNatClampNeg) (u.1 a1.toNatClampNeg)) = 1 then some (.inr true) else some (.inr false))))))
abbrev rmX5_areNext : Room := { frames := 7, cells := 2, slots := 12, locals := 110 }

def f_X5_middle (u : StX) (a0 : Int32) (a1 : Int32) (a2 : Int32) : Option ((String ⊕ (Int64 × StX))) := (xb (f_X5_checkSlot a0) fun _ => (xb (f_X5_checkSlot a1) fun _ => (xb (f_X5_checkSlot a2) fun _ => (if (a0 < 0 ∨ 8 ≤ a0.toNatClampNeg) then none else (if (a1 < 0 ∨ 8 ≤ a1.toNatClampNeg) then none else ((f_X5_become u a2 (f_X0_between (u.1 a0.toNatClampNeg) (u.1 a1.toNatClampNeg))).bind fun z6 => some (.inr z6)))))))
abbrev rmX5_middle : Room := { frames := 7, cells := 3, slots := 18, locals := 110 }

def f_X5_halvings_L26 (u : StX) (a0 : Int32) (a1 : Int32)   : Nat → Int32 → Int64 → Int64 → Option ((String ⊕ Int32))
  | 0, _, _, _ => none
  | n26 + 1, v26_7, v26_5, v26_3 => (if v26_7 < 64 then (if (f_X0_isMoreThan (f_X0_distance v26_3 v26_5) 1) = false then some (.inr v26_7) else (f_X5_halvings_L26 u a0 a1 n26 (v26_7 + 1) v26_5 (f_X0_between v26_3 v26_5))) else some (.inr v26_7))
def f_X5_halvings (u : StX) (a0 : Int32) (a1 : Int32) : Option ((String ⊕ Int32)) := (xb (f_X5_checkSlot a0) fun _ => (xb (f_X5_checkSlot a1) fun _ => (if (a0 < 0 ∨ 8 ≤ a0.toNatClampNeg) then none else (if (a1 < 0 ∨ 8 ≤ a1.toNatClampNeg) then none else (f_X5_halvings_L26 u a0 a1 100 0 (u.1 a1.toNatClampNeg) (u.1 a0.toNatClampNeg))))))
abbrev rmX5_halvings : Room := { frames := 7, cells := 2, slots := 12, locals := 110 }

def f_X5_compare (u : StX) (a0 : Int32) (a1 : Int32) : Option ((String ⊕ Int32)) := (xb (f_X5_checkSlot a0) fun _ => (xb (f_X5_checkSlot a1) fun _ => (if (a0 < 0 ∨ 8 ≤ a0.toNatClampNeg) then none else (if (a1 < 0 ∨ 8 ≤ a1.toNatClampNeg) then none else some (.inr (f_X0_order (u.1 a0.toNatClampNeg) (u.1 a1.toNatClampNeg)))))))
abbrev rmX5_compare : Room := { frames := 7, cells := 2, slots := 12, locals := 110 }

def f_X5_rank_L8 (u : StX) (a0 : Int32)   : Nat → Int32 → Int32 → Option ((String ⊕ Int32))
  | 0, _, _ => none
  | n8 + 1, v8_3, v8_2 => (if v8_3 < 8 then (if (v8_3 < 0 ∨ 8 ≤ v8_3.toNatClampNeg) then none else (if (a0 < 0 ∨ 8 ≤ a0.toNatClampNeg) then none else (if (f_X0_order (u.1 v8_3.toNatClampNeg) (u.1 a0.toNatClampNeg)) < 0 then (f_X5_rank_L8 u a0 n8 (v8_3 + 1) (v8_2 + 1)) else (f_X5_rank_L8 u a0 n8 (v8_3 + 1) v8_2)))) else some (.inr v8_2))
def f_X5_rank (u : StX) (a0 : Int32) : Option ((String ⊕ Int32)) := (xb (f_X5_checkSlot a0) fun _ => (f_X5_rank_L8 u a0 100 0 0))
abbrev rmX5_rank : Room := { frames := 7, cells := 1, slots := 6, locals := 110 }

def f_X5_scale (u : StX) (a0 : Int32) (a1 : Int32) (a2 : Int32) : Option ((String ⊕ (Int64 × StX))) := (xb (f_X5_checkSlot a0) fun _ => (xb (f_X5_checkSlot a2) fun _ => (xb (f_X5_checkRange a1 (-4200) 4200) fun _ => (if (a0 < 0 ∨ 8 ≤ a0.toNatClampNeg) then none else ((f_X5_become u a2 (f_X0_scaled (u.1 a0.toNatClampNeg) a1)).bind fun z5 => some (.inr z5))))))
abbrev rmX5_scale : Room := { frames := 7, cells := 3, slots := 18, locals := 112 }

def f_X5_isKept (u : StX) (a0 : Int32) (a1 : Int32) : Option ((String ⊕ Bool)) := (xb (f_X5_checkSlot a0) fun _ => (xb (f_X5_checkRange a1 (-4200) 4200) fun _ => (if (a0 < 0 ∨ 8 ≤ a0.toNatClampNeg) then none else (if (f_X0_scaled (f_X0_scaled (u.1 a0.toNatClampNeg) a1) (-a1)) = (u.1 a0.toNatClampNeg) then some (.inr true) else some (.inr false)))))
abbrev rmX5_isKept : Room := { frames := 7, cells := 2, slots := 12, locals := 112 }

def f_X5_isOne (u : StX) (a0 : Int32) (a1 : Int32) (a2 : Int32) : Option ((String ⊕ Bool)) := (xb (f_X5_checkSlot a0) fun _ => (xb (f_X5_checkRange a1 (-2100) 2100) fun _ => (xb (f_X5_checkRange a2 (-2100) 2100) fun _ => (if (a0 < 0 ∨ 8 ≤ a0.toNatClampNeg) then none else (if (f_X0_scaled (f_X0_scaled (u.1 a0.toNatClampNeg) a1) a2) = (f_X0_scaled (u.1 a0.toNatClampNeg) (a1 + a2)) then some (.inr true) else some (.inr false))))))
abbrev rmX5_isOne : Room := { frames := 7, cells := 3, slots := 18, locals := 112 }

def f_X5_exponent (u : StX) (a0 : Int32) : Option ((String ⊕ Int32)) := (xb (f_X5_checkSlot a0) fun _ => (if (a0 < 0 ∨ 8 ≤ a0.toNatClampNeg) then none else some (.inr (f_X0_exponentOf (u.1 a0.toNatClampNeg)))))
abbrev rmX5_exponent : Room := { frames := 7, cells := 1, slots := 6, locals := 110 }

def f_X5_unit (u : StX) (a0 : Int32) (a1 : Int32) : Option ((String ⊕ (Int64 × StX))) := (xb (f_X5_checkSlot a0) fun _ => (xb (f_X5_checkSlot a1) fun _ => (if (a0 < 0 ∨ 8 ≤ a0.toNatClampNeg) then none else ((f_X5_become u a1 (f_X0_unitOf (u.1 a0.toNatClampNeg))).bind fun z4 => some (.inr z4)))))
abbrev rmX5_unit : Room := { frames := 7, cells := 2, slots := 12, locals := 110 }

def f_X5_lead (u : StX) (a0 : Int32) : Option ((String ⊕ Int32)) := (xb (f_X5_checkSlot a0) fun _ => (if (a0 < 0 ∨ 8 ≤ a0.toNatClampNeg) then none else (xb (f_X5_checkHasPowers (u.1 a0.toNatClampNeg)) fun _ => (if (a0 < 0 ∨ 8 ≤ a0.toNatClampNeg) then none else some (.inr (f_X0_leadOf (u.1 a0.toNatClampNeg)))))))
abbrev rmX5_lead : Room := { frames := 7, cells := 2, slots := 12, locals := 111 }

def f_X5_tail (u : StX) (a0 : Int32) : Option ((String ⊕ Int32)) := (xb (f_X5_checkSlot a0) fun _ => (if (a0 < 0 ∨ 8 ≤ a0.toNatClampNeg) then none else (xb (f_X5_checkHasPowers (u.1 a0.toNatClampNeg)) fun _ => (if (a0 < 0 ∨ 8 ≤ a0.toNatClampNeg) then none else some (.inr (f_X0_tailOf (u.1 a0.toNatClampNeg)))))))
abbrev rmX5_tail : Room := { frames := 7, cells := 2, slots := 12, locals := 111 }

def f_X5_power (u : StX) (a0 : Int32) (a1 : Int32) : Option ((String ⊕ (Int64 × StX))) := (xb (f_X5_checkSlot a0) fun _ => (xb (f_X5_checkSlot a1) fun _ => (if (a0 < 0 ∨ 8 ≤ a0.toNatClampNeg) then none else (xb (f_X5_checkHasPowers (u.1 a0.toNatClampNeg)) fun _ => (if (a0 < 0 ∨ 8 ≤ a0.toNatClampNeg) then none else ((f_X5_become u a1 (f_X0_powerOfTwo (f_X0_leadOf (u.1 a0.toNatClampNeg)))).bind fun z6 => some (.inr z6)))))))
abbrev rmX5_power : Room := { frames := 7, cells := 3, slots := 18, locals := 111 }

def f_X5_grains (u : StX) (a0 : Int32) (a1 : Int32) : Option ((String ⊕ Int32)) := (xb (f_X5_checkSlot a0) fun _ => (xb (f_X5_checkRange a1 1 1000000) fun _ => (if (a0 < 0 ∨ 8 ≤ a0.toNatClampNeg) then none else (xb (f_X5_checkHasEnd (u.1 a0.toNatClampNeg)) fun _ => (if (a0 < 0 ∨ 8 ≤ a0.toNatClampNeg) then none else ((f_X1_sizeRest (u.1 a0.toNatClampNeg) a1).bind fun r6 => some (.inr r6)))))))
abbrev rmX5_grains : Room := { frames := 7, cells := 3, slots := 18, locals := 112 }

def f_X5_gap (u : StX) (a0 : Int32) (a1 : Int32) (a2 : Int32) : Option ((String ⊕ Int32)) := (xb (f_X5_checkSlot a0) fun _ => (xb (f_X5_checkSlot a1) fun _ => (xb (f_X5_checkRange a2 1 1000000) fun _ => (if (a0 < 0 ∨ 8 ≤ a0.toNatClampNeg) then none else (xb (f_X5_checkHasEnd (u.1 a0.toNatClampNeg)) fun _ => (if (a1 < 0 ∨ 8 ≤ a1.toNatClampNeg) then none else (xb (f_X5_checkHasEnd (u.1 a1.toNatClampNeg)) fun _ => (if (a0 < 0 ∨ 8 ≤ a0.toNatClampNeg) then none else (if (a1 < 0 ∨ 8 ≤ a1.toNatClampNeg) then none else ((f_X1_gapRest (u.1 a0.toNatClampNeg) (u.1 a1.toNatClampNeg) a2).bind fun r10 => some (.inr r10)))))))))))
abbrev rmX5_gap : Room := { frames := 7, cells := 5, slots := 30, locals := 116 }

def f_X5_compareGaps (u : StX) (a0 : Int32) (a1 : Int32) (a2 : Int32) (a3 : Int32) : Option ((String ⊕ Int32)) := (xb (f_X5_checkSlot a0) fun _ => (xb (f_X5_checkSlot a1) fun _ => (xb (f_X5_checkSlot a2) fun _ => (xb (f_X5_checkSlot a3) fun _ => (if (a0 < 0 ∨ 8 ≤ a0.toNatClampNeg) then none else (xb (f_X5_checkHasEnd (u.1 a0.toNatClampNeg)) fun _ => (if (a1 < 0 ∨ 8 ≤ a1.toNatClampNeg) then none else (xb (f_X5_checkHasEnd (u.1 a1.toNatClampNeg)) fun _ => (if (a2 < 0 ∨ 8 ≤ a2.toNatClampNeg) then none else (xb (f_X5_checkHasEnd (u.1 a2.toNatClampNeg)) fun _ => (if (a3 < 0 ∨ 8 ≤ a3.toNatClampNeg) then none else (xb (f_X5_checkHasEnd (u.1 a3.toNatClampNeg)) fun _ => (if (a0 < 0 ∨ 8 ≤ a0.toNatClampNeg) then none else (if (a1 < 0 ∨ 8 ≤ a1.toNatClampNeg) then none else (if (a2 < 0 ∨ 8 ≤ a2.toNatClampNeg) then none else (if (a3 < 0 ∨ 8 ≤ a3.toNatClampNeg) then none else ((f_X1_orderOfGaps (u.1 a0.toNatClampNeg) (u.1 a1.toNatClampNeg) (u.1 a2.toNatClampNeg) (u.1 a3.toNatClampNeg)).bind fun r17 => some (.inr r17))))))))))))))))))
abbrev rmX5_compareGaps : Room := { frames := 7, cells := 8, slots := 48, locals := 131 }

def f_X5_say (u : StX) (a0 : Int32) (a1 : Int32) : Option ((String ⊕ (Int32 × StX))) := (if (f_X3_isWord a0 a1) = false then some (.inl "java/lang/IllegalArgumentException") else (if (f_X3_isFull u.2.1) = false then ((f_X3_add u.2.1 a0 a1).bind fun z3 => some (.inr ((f_X3_size z3), (u.1, (z3, u.2.2))))) else some (.inl "java/lang/IllegalStateException")))
abbrev rmX5_say : Room := { frames := 6, cells := 1, slots := 6, locals := 90 }

def f_X5_play (u : StX) (a0 : Int32) (a1 : Int32) : Option ((String ⊕ (Int64 × StX))) := (xb (f_X5_checkSlot a0) fun _ => (xb (f_X5_checkSlot a1) fun _ => (if (a0 < 0 ∨ 8 ≤ a0.toNatClampNeg) then none else ((f_X3_playedOn u.2.1 (u.1 a0.toNatClampNeg)).bind fun r4 => ((f_X5_become u a1 r4).bind fun z5 => some (.inr z5))))))
abbrev rmX5_play : Room := { frames := 7, cells := 2, slots := 12, locals := 138 }

def f_X5_playBack (u : StX) (a0 : Int32) (a1 : Int32) : Option ((String ⊕ (Int64 × StX))) := (xb (f_X5_checkSlot a0) fun _ => (xb (f_X5_checkSlot a1) fun _ => (if (a0 < 0 ∨ 8 ≤ a0.toNatClampNeg) then none else ((f_X3_playedBackOn u.2.1 (u.1 a0.toNatClampNeg)).bind fun r4 => ((f_X5_become u a1 r4).bind fun z5 => some (.inr z5))))))
abbrev rmX5_playBack : Room := { frames := 7, cells := 2, slots := 12, locals := 138 }

def f_X5_isHome (u : StX) (a0 : Int32) : Option ((String ⊕ Bool)) := (xb (f_X5_checkSlot a0) fun _ => (if (a0 < 0 ∨ 8 ≤ a0.toNatClampNeg) then none else ((f_X3_leadsHome u.2.1 (u.1 a0.toNatClampNeg)).bind fun r3 => some (.inr r3))))
abbrev rmX5_isHome : Room := { frames := 7, cells := 1, slots := 6, locals := 160 }

def f_X5_losses (u : StX) (a0 : Int32) : Option ((String ⊕ Int32)) := (xb (f_X5_checkSlot a0) fun _ => (if (a0 < 0 ∨ 8 ≤ a0.toNatClampNeg) then none else ((f_X3_lossesFrom u.2.1 (u.1 a0.toNatClampNeg)).bind fun r3 => some (.inr r3))))
abbrev rmX5_losses : Room := { frames := 7, cells := 1, slots := 6, locals := 141 }

def f_X5_undo (u : StX) : Option ((String ⊕ (Int32 × StX))) := (if (f_X2_isEmpty u.2.2) = false then ((f_X2_latestSlot u.2.2).bind fun r2 => ((f_X2_latestNumber u.2.2).bind fun r3 => (if (r2 < 0 ∨ 8 ≤ r2.toNatClampNeg) then none else ((f_X2_forgetLatest u.2.2).bind fun z5 => some (.inr (r2, ((vp_updL u.1 r2.toNatClampNeg r3), (u.2.1, z5)))))))) else some (.inl "java/util/NoSuchElementException"))
abbrev rmX5_undo : Room := { frames := 6, cells := 1, slots := 6, locals := 90 }

abbrev rmX2_init : Room := { frames := 1, cells := 2, slots := 16, locals := 21 }

abbrev rmX3_init : Room := { frames := 1, cells := 2, slots := 80, locals := 21 }

abbrev rmX5_init : Room := { frames := 2, cells := 7, slots := 111, locals := 41 }

abbrev rmX6_init : Room := { frames := 1, cells := 5, slots := 104, locals := 21 }

def f_X6_digits_L16 (a0 : Int64)   : Nat → Int32 → Int64 → (Nat → Int64) → Option (Nat → Int64)
  | 0, _, _, _ => none
  | n16 + 1, v16_5, v16_3, s16_0 => (if 0 < v16_3 then (if (v16_3 - v16_3 / 2 * 2) = 1 then (if ((v16_5 / 30) < 0 ∨ 72 ≤ (v16_5 / 30).toNatClampNeg) then none else (if ((v16_5 / 30) < 0 ∨ 72 ≤ (v16_5 / 30).toNatClampNeg) then none else (f_X6_digits_L16 a0 n16 (v16_5 + 1) (v16_3 / 2) (vp_updL s16_0 (v16_5 / 30).toNatClampNeg ((s16_0 (v16_5 / 30).toNatClampNeg) + (jshl 1 (v16_5 - v16_5 / 30 * 30))))))) else (f_X6_digits_L16 a0 n16 (v16_5 + 1) (v16_3 / 2) s16_0)) else some s16_0)
def f_X6_digits (a0 : Int64) : Option (Nat → Int64) := (f_X6_digits_L16 a0 100 (f_X6_shift a0) (f_X6_whole a0) (fun _ => 0))
abbrev rmX6_digits : Room := { frames := 1, cells := 1, slots := 72, locals := 21 }

def f_X6_sum_L11 (a0 : Nat → Int64) (a1 : Nat → Int64) (a2 : Int32)   : Nat → Int32 → Int64 → (Nat → Int64) → Option (Nat → Int64)
  | 0, _, _, _ => none
  | n11 + 1, v11_6, v11_4, s11_2 => (if v11_6 < 72 then (if (v11_6 < 0 ∨ 72 ≤ v11_6.toNatClampNeg) then none else (if (v11_6 < 0 ∨ 72 ≤ v11_6.toNatClampNeg) then none else (if (v11_6 < 0 ∨ 72 ≤ v11_6.toNatClampNeg) then none else (f_X6_sum_L11 a0 a1 a2 n11 (v11_6 + 1) (jshr (((a0 v11_6.toNatClampNeg) + ((a2.toInt64) * (a1 v11_6.toNatClampNeg))) + v11_4) 30) (vp_updL s11_2 v11_6.toNatClampNeg ((((a0 v11_6.toNatClampNeg) + ((a2.toInt64) * (a1 v11_6.toNatClampNeg))) + v11_4) - (jshl (jshr (((a0 v11_6.toNatClampNeg) + ((a2.toInt64) * (a1 v11_6.toNatClampNeg))) + v11_4) 30) 30))))))) else some s11_2)
def f_X6_sum (a0 : Nat → Int64) (a1 : Nat → Int64) (a2 : Int32) : Option (Nat → Int64) := (f_X6_sum_L11 a0 a1 a2 100 0 0 (fun _ => 0))
abbrev rmX6_sum : Room := { frames := 0, cells := 1, slots := 72, locals := 0 }

def f_X6_far (a0 : Int64) (a1 : Int64) : Option (Nat → Int64) := ((f_X6_digits (f_X6_size a0)).bind fun z1 => ((f_X6_digits (f_X6_size a1)).bind fun z3 => (if a0 < 0 then (if a1 < 0 then (if (f_X6_size a0) < (f_X6_size a1) then ((f_X6_sum z3 z1 (-1)).bind fun z8 => some z8) else ((f_X6_sum z1 z3 (-1)).bind fun z10 => some z10)) else ((f_X6_sum z1 z3 1).bind fun z12 => some z12)) else (if a1 < 0 then ((f_X6_sum z1 z3 1).bind fun z15 => some z15) else (if (f_X6_size a0) < (f_X6_size a1) then ((f_X6_sum z3 z1 (-1)).bind fun z18 => some z18) else ((f_X6_sum z1 z3 (-1)).bind fun z20 => some z20))))))
abbrev rmX6_far : Room := { frames := 2, cells := 3, slots := 216, locals := 46 }

def f_X6_thrown (u : StM) : Int32 := u.2.2.2.2.2.2.2
abbrev rmX6_thrown : Room := { frames := 0, cells := 0, slots := 0, locals := 0 }

def f_X6_no (u : StM) (a0 : Bool) (a1 : Int32) : Option (Bool × StM) := (if a0 = false then (if a0 = false then some (true, (u.1, (u.2.1, (u.2.2.1, (u.2.2.2.1, (u.2.2.2.2.1, (u.2.2.2.2.2.1, (u.2.2.2.2.2.2.1, a1)))))))) else some (false, (u.1, (u.2.1, (u.2.2.1, (u.2.2.2.1, (u.2.2.2.2.1, (u.2.2.2.2.2.1, (u.2.2.2.2.2.2.1, a1))))))))) else (if a0 = false then some (true, (u.1, (u.2.1, (u.2.2.1, (u.2.2.2.1, (u.2.2.2.2.1, (u.2.2.2.2.2.1, (u.2.2.2.2.2.2.1, 0)))))))) else some (false, (u.1, (u.2.1, (u.2.2.1, (u.2.2.2.1, (u.2.2.2.2.1, (u.2.2.2.2.2.1, (u.2.2.2.2.2.2.1, 0))))))))))
abbrev rmX6_no : Room := { frames := 0, cells := 0, slots := 0, locals := 0 }
theorem no_t (u : StM) (k : Int32) : f_X6_no u true k = some (false, (u.1, u.2.1, u.2.2.1, u.2.2.2.1, u.2.2.2.2.1, u.2.2.2.2.2.1, u.2.2.2.2.2.2.1, 0)) := rfl
theorem no_f (u : StM) (k : Int32) : f_X6_no u false k = some (true, (u.1, u.2.1, u.2.2.1, u.2.2.2.1, u.2.2.2.2.1, u.2.2.2.2.2.1, u.2.2.2.2.2.2.1, k)) := rfl
theorem no_b (u : StM) (b : Bool) (k : Int32) : f_X6_no u b k = some (!b, (u.1, u.2.1, u.2.2.1, u.2.2.2.1, u.2.2.2.2.1, u.2.2.2.2.2.1, u.2.2.2.2.2.2.1, if b = true then 0 else k)) := by cases b <;> rfl

def f_X6_lacks (u : StM) (a0 : Int32) : Option (Bool × StM) := some ((!(f_X6_isSlot a0)), (u.1, (u.2.1, (u.2.2.1, (u.2.2.2.1, (u.2.2.2.2.1, (u.2.2.2.2.2.1, (u.2.2.2.2.2.2.1, (if (f_X6_isSlot a0) = true then 0 else 1)))))))))
abbrev rmX6_lacks : Room := { frames := 2, cells := 0, slots := 0, locals := 42 }

def f_X6_lacks_ (u : StM) (a0 : Int32) (a1 : Int32) : Option (Bool × StM) := (if (f_X6_isSlot a0) = false then some (true, (u.1, (u.2.1, (u.2.2.1, (u.2.2.2.1, (u.2.2.2.2.1, (u.2.2.2.2.2.1, (u.2.2.2.2.2.2.1, 1)))))))) else (if (f_X6_isSlot a1) = false then some (true, (u.1, (u.2.1, (u.2.2.1, (u.2.2.2.1, (u.2.2.2.2.1, (u.2.2.2.2.2.1, (u.2.2.2.2.2.2.1, 1)))))))) else some (false, (u.1, (u.2.1, (u.2.2.1, (u.2.2.2.1, (u.2.2.2.2.1, (u.2.2.2.2.2.1, (u.2.2.2.2.2.2.1, 0))))))))))
abbrev rmX6_lacks_ : Room := { frames := 2, cells := 0, slots := 0, locals := 42 }

def f_X6_lacks__ (u : StM) (a0 : Int32) (a1 : Int32) (a2 : Int32) : Option (Bool × StM) := (if (f_X6_isSlot a0) = false then some (true, (u.1, (u.2.1, (u.2.2.1, (u.2.2.2.1, (u.2.2.2.2.1, (u.2.2.2.2.2.1, (u.2.2.2.2.2.2.1, 1)))))))) else (if (f_X6_isSlot a1) = false then some (true, (u.1, (u.2.1, (u.2.2.1, (u.2.2.2.1, (u.2.2.2.2.1, (u.2.2.2.2.2.1, (u.2.2.2.2.2.2.1, 1)))))))) else (if (f_X6_isSlot a2) = false then some (true, (u.1, (u.2.1, (u.2.2.1, (u.2.2.2.1, (u.2.2.2.2.1, (u.2.2.2.2.2.1, (u.2.2.2.2.2.2.1, 1)))))))) else some (false, (u.1, (u.2.1, (u.2.2.1, (u.2.2.2.1, (u.2.2.2.2.1, (u.2.2.2.2.2.1, (u.2.2.2.2.2.2.1, 0)))))))))))
abbrev rmX6_lacks__ : Room := { frames := 2, cells := 0, slots := 0, locals := 42 }

def f_X6_becomes_L12 (u : StM) (a0 : Int32) (a1 : Int64)   : Nat → Int32 → StM → Option (Int64 × StM)
  | 0, _, _ => none
  | n12 + 1, v12_4, s12 => (if v12_4 < 8 then (if (v12_4 < 0 ∨ 8 ≤ v12_4.toNatClampNeg) then none else (if ((v12_4 - 1) < 0 ∨ 8 ≤ (v12_4 - 1).toNatClampNeg) then none else (if (v12_4 < 0 ∨ 8 ≤ v12_4.toNatClampNeg) then none else (if ((v12_4 - 1) < 0 ∨ 8 ≤ (v12_4 - 1).toNatClampNeg) then none else (f_X6_becomes_L12 u a0 a1 n12 (v12_4 + 1) (s12.1, ((upd s12.2.1 (v12_4 - 1).toNatClampNeg (s12.2.1 v12_4.toNatClampNeg)), ((vp_updL s12.2.2.1 (v12_4 - 1).toNatClampNeg (s12.2.2.1 v12_4.toNatClampNeg)), s12.2.2.2)))))))) else (if ((s12.2.2.2.1 - 1) < 0 ∨ 8 ≤ (s12.2.2.2.1 - 1).toNatClampNeg) then none else (if (a0 < 0 ∨ 8 ≤ a0.toNatClampNeg) then none else (if ((s12.2.2.2.1 - 1) < 0 ∨ 8 ≤ (s12.2.2.2.1 - 1).toNatClampNeg) then none else (if (a0 < 0 ∨ 8 ≤ a0.toNatClampNeg) then none else some ((f_X6_placeOf a1), ((vp_updL s12.1 a0.toNatClampNeg a1), ((upd s12.2.1 (s12.2.2.2.1 - 1).toNatClampNeg a0), ((vp_updL s12.2.2.1 (s12.2.2.2.1 - 1).toNatClampNeg (s12.1 a0.toNatClampNeg)), (((s12.2.2.2.1 - 1) + 1), s12.2.2.2.2))))))))))
def f_X6_becomes (u : StM) (a0 : Int32) (a1 : Int64) : Option (Int64 × StM) := (if u.2.2.2.1 = 8 then (f_X6_becomes_L12 u a0 a1 100 1 u) else (if (u.2.2.2.1 < 0 ∨ 8 ≤ u.2.2.2.1.toNatClampNeg) then none else (if (a0 < 0 ∨ 8 ≤ a0.toNatClampNeg) then none else (if (u.2.2.2.1 < 0 ∨ 8 ≤ u.2.2.2.1.toNatClampNeg) then none else (if (a0 < 0 ∨ 8 ≤ a0.toNatClampNeg) then none else some ((f_X6_placeOf a1), ((vp_updL u.1 a0.toNatClampNeg a1), ((upd u.2.1 u.2.2.2.1.toNatClampNeg a0), ((vp_updL u.2.2.1 u.2.2.2.1.toNatClampNeg (u.1 a0.toNatClampNeg)), ((u.2.2.2.1 + 1), u.2.2.2.2))))))))))
abbrev rmX6_becomes : Room := { frames := 1, cells := 0, slots := 0, locals := 21 }

def f_X6_undo (u : StM) : Option (Int32 × StM) := (if 0 < u.2.2.2.1 then (if ((u.2.2.2.1 - 1) < 0 ∨ 8 ≤ (u.2.2.2.1 - 1).toNatClampNeg) then none else (if ((u.2.2.2.1 - 1) < 0 ∨ 8 ≤ (u.2.2.2.1 - 1).toNatClampNeg) then none else (if ((u.2.1 (u.2.2.2.1 - 1).toNatClampNeg) < 0 ∨ 8 ≤ (u.2.1 (u.2.2.2.1 - 1).toNatClampNeg).toNatClampNeg) then none else (if ((u.2.2.2.1 - 1) < 0 ∨ 8 ≤ (u.2.2.2.1 - 1).toNatClampNeg) then none else some ((u.2.1 (u.2.2.2.1 - 1).toNatClampNeg), ((vp_updL u.1 (u.2.1 (u.2.2.2.1 - 1).toNatClampNeg).toNatClampNeg (u.2.2.1 (u.2.2.2.1 - 1).toNatClampNeg)), (u.2.1, (u.2.2.1, ((u.2.2.2.1 - 1), (u.2.2.2.2.1, (u.2.2.2.2.2.1, (u.2.2.2.2.2.2.1, 0)))))))))))) else some (0, (u.1, (u.2.1, (u.2.2.1, (u.2.2.2.1, (u.2.2.2.2.1, (u.2.2.2.2.2.1, (u.2.2.2.2.2.2.1, 1)))))))))
abbrev rmX6_undo : Room := { frames := 1, cells := 0, slots := 0, locals := 22 }

def f_X6_set (u : StM) (a0 : Int32) (a1 : Int32) (a2 : Int32) : Option (Int64 × StM) := ((f_X6_lacks u a0).bind fun z1 => (if z1.1 = false then (if (f_X6_in a1 (-128) 127) = false then some (0, (z1.2.1, (z1.2.2.1, (z1.2.2.2.1, (z1.2.2.2.2.1, (z1.2.2.2.2.2.1, (z1.2.2.2.2.2.2.1, (z1.2.2.2.2.2.2.2.1, 2)))))))) else (if (f_X6_in a2 0 255) = false then some (0, (z1.2.1, (z1.2.2.1, (z1.2.2.2.1, (z1.2.2.2.2.1, (z1.2.2.2.2.2.1, (z1.2.2.2.2.2.2.1, (z1.2.2.2.2.2.2.2.1, 2)))))))) else (if a2 < 64 then (if a1 = 0 then (if a1 < 0 then ((f_X6_becomes (z1.2.1, (z1.2.2.1, (z1.2.2.2.1, (z1.2.2.2.2.1, (z1.2.2.2.2.2.1, (z1.2.2.2.2.2.2.1, (z1.2.2.2.2.2.2.2.1, 0))))))) a0 (f_X6_opposite 0)).bind fun z45 => some z45) else ((f_X6_becomes (z1.2.1, (z1.2.2.1, (z1.2.2.2.1, (z1.2.2.2.2.1, (z1.2.2.2.2.2.1, (z1.2.2.2.2.2.2.1, (z1.2.2.2.2.2.2.2.1, 0))))))) a0 0).bind fun z44 => some z44)) else (if a1 < 0 then ((f_X6_made ((-a1).toInt64) ((a2 - 1074) + 1074)).bind fun r39 => (if a1 < 0 then ((f_X6_becomes (z1.2.1, (z1.2.2.1, (z1.2.2.2.1, (z1.2.2.2.2.1, (z1.2.2.2.2.2.1, (z1.2.2.2.2.2.2.1, (z1.2.2.2.2.2.2.2.1, 0))))))) a0 (f_X6_opposite r39)).bind fun z42 => some z42) else ((f_X6_becomes (z1.2.1, (z1.2.2.1, (z1.2.2.2.1, (z1.2.2.2.2.1, (z1.2.2.2.2.2.1, (z1.2.2.2.2.2.2.1, (z1.2.2.2.2.2.2.2.1, 0))))))) a0 r39).bind fun z41 => some z41))) else ((f_X6_made (a1.toInt64) ((a2 - 1074) + 1074)).bind fun r35 => (if a1 < 0 then ((f_X6_becomes (z1.2.1, (z1.2.2.1, (z1.2.2.2.1, (z1.2.2.2.2.1, (z1.2.2.2.2.2.1, (z1.2.2.2.2.2.2.1, (z1.2.2.2.2.2.2.2.1, 0))))))) a0 (f_X6_opposite r35)).bind fun z38 => some z38) else ((f_X6_becomes (z1.2.1, (z1.2.2.1, (z1.2.2.2.1, (z1.2.2.2.2.1, (z1.2.2.2.2.2.1, (z1.2.2.2.2.2.2.1, (z1.2.2.2.2.2.2.2.1, 0))))))) a0 r35).bind fun z37 => some z37))))) else (if a2 < 192 then (if a1 = 0 then (if a1 < 0 then ((f_X6_becomes (z1.2.1, (z1.2.2.1, (z1.2.2.2.1, (z1.2.2.2.2.1, (z1.2.2.2.2.2.1, (z1.2.2.2.2.2.2.1, (z1.2.2.2.2.2.2.2.1, 0))))))) a0 (f_X6_opposite 0)).bind fun z32 => some z32) else ((f_X6_becomes (z1.2.1, (z1.2.2.1, (z1.2.2.2.1, (z1.2.2.2.2.1, (z1.2.2.2.2.2.1, (z1.2.2.2.2.2.2.1, (z1.2.2.2.2.2.2.2.1, 0))))))) a0 0).bind fun z31 => some z31)) else (if a1 < 0 then ((f_X6_made ((-a1).toInt64) ((a2 - 128) + 1074)).bind fun r26 => (if a1 < 0 then ((f_X6_becomes (z1.2.1, (z1.2.2.1, (z1.2.2.2.1, (z1.2.2.2.2.1, (z1.2.2.2.2.2.1, (z1.2.2.2.2.2.2.1, (z1.2.2.2.2.2.2.2.1, 0))))))) a0 (f_X6_opposite r26)).bind fun z29 => some z29) else ((f_X6_becomes (z1.2.1, (z1.2.2.1, (z1.2.2.2.1, (z1.2.2.2.2.1, (z1.2.2.2.2.2.1, (z1.2.2.2.2.2.2.1, (z1.2.2.2.2.2.2.2.1, 0))))))) a0 r26).bind fun z28 => some z28))) else ((f_X6_made (a1.toInt64) ((a2 - 128) + 1074)).bind fun r22 => (if a1 < 0 then ((f_X6_becomes (z1.2.1, (z1.2.2.1, (z1.2.2.2.1, (z1.2.2.2.2.1, (z1.2.2.2.2.2.1, (z1.2.2.2.2.2.2.1, (z1.2.2.2.2.2.2.2.1, 0))))))) a0 (f_X6_opposite r22)).bind fun z25 => some z25) else ((f_X6_becomes (z1.2.1, (z1.2.2.1, (z1.2.2.2.1, (z1.2.2.2.2.1, (z1.2.2.2.2.2.1, (z1.2.2.2.2.2.2.1, (z1.2.2.2.2.2.2.2.1, 0))))))) a0 r22).bind fun z24 => some z24))))) else (if a1 = 0 then (if a1 < 0 then ((f_X6_becomes (z1.2.1, (z1.2.2.1, (z1.2.2.2.1, (z1.2.2.2.2.1, (z1.2.2.2.2.2.1, (z1.2.2.2.2.2.2.1, (z1.2.2.2.2.2.2.2.1, 0))))))) a0 (f_X6_opposite 0)).bind fun z19 => some z19) else ((f_X6_becomes (z1.2.1, (z1.2.2.1, (z1.2.2.2.1, (z1.2.2.2.2.1, (z1.2.2.2.2.2.1, (z1.2.2.2.2.2.2.1, (z1.2.2.2.2.2.2.2.1, 0))))))) a0 0).bind fun z18 => some z18)) else (if a1 < 0 then ((f_X6_made ((-a1).toInt64) ((a2 + 761) + 1074)).bind fun r13 => (if a1 < 0 then ((f_X6_becomes (z1.2.1, (z1.2.2.1, (z1.2.2.2.1, (z1.2.2.2.2.1, (z1.2.2.2.2.2.1, (z1.2.2.2.2.2.2.1, (z1.2.2.2.2.2.2.2.1, 0))))))) a0 (f_X6_opposite r13)).bind fun z16 => some z16) else ((f_X6_becomes (z1.2.1, (z1.2.2.1, (z1.2.2.2.1, (z1.2.2.2.2.1, (z1.2.2.2.2.2.1, (z1.2.2.2.2.2.2.1, (z1.2.2.2.2.2.2.2.1, 0))))))) a0 r13).bind fun z15 => some z15))) else ((f_X6_made (a1.toInt64) ((a2 + 761) + 1074)).bind fun r9 => (if a1 < 0 then ((f_X6_becomes (z1.2.1, (z1.2.2.1, (z1.2.2.2.1, (z1.2.2.2.2.1, (z1.2.2.2.2.2.1, (z1.2.2.2.2.2.2.1, (z1.2.2.2.2.2.2.2.1, 0))))))) a0 (f_X6_opposite r9)).bind fun z12 => some z12) else ((f_X6_becomes (z1.2.1, (z1.2.2.1, (z1.2.2.2.1, (z1.2.2.2.2.1, (z1.2.2.2.2.2.1, (z1.2.2.2.2.2.2.1, (z1.2.2.2.2.2.2.2.1, 0))))))) a0 r9).bind fun z11 => some z11))))))))) else some (0, z1.2)))
abbrev rmX6_set : Room := { frames := 3, cells := 0, slots := 0, locals := 63 }

def f_X6_end (u : StM) (a0 : Int32) (a1 : Bool) : Option (Int64 × StM) := ((f_X6_lacks u a0).bind fun z1 => (if z1.1 = false then (if a1 = false then ((f_X6_becomes z1.2 a0 (f_X6_opposite 9218868437227405312)).bind fun z4 => some z4) else ((f_X6_becomes z1.2 a0 9218868437227405312).bind fun z5 => some z5)) else some (0, z1.2)))
abbrev rmX6_end : Room := { frames := 3, cells := 0, slots := 0, locals := 63 }

def f_X6_copy (u : StM) (a0 : Int32) (a1 : Int32) : Option (Int64 × StM) := ((f_X6_lacks_ u a0 a1).bind fun z1 => (if z1.1 = false then (if (a0 < 0 ∨ 8 ≤ a0.toNatClampNeg) then none else ((f_X6_becomes z1.2 a1 (z1.2.1 a0.toNatClampNeg)).bind fun z4 => some z4)) else some (0, z1.2)))
abbrev rmX6_copy : Room := { frames := 3, cells := 0, slots := 0, locals := 64 }

def f_X6_negate (u : StM) (a0 : Int32) (a1 : Int32) : Option (Int64 × StM) := ((f_X6_lacks_ u a0 a1).bind fun z1 => (if z1.1 = false then (if (a0 < 0 ∨ 8 ≤ a0.toNatClampNeg) then none else ((f_X6_becomes z1.2 a1 (f_X6_opposite (z1.2.1 a0.toNatClampNeg))).bind fun z4 => some z4)) else some (0, z1.2)))
abbrev rmX6_negate : Room := { frames := 3, cells := 0, slots := 0, locals := 64 }

def f_X6_place (u : StM) (a0 : Int32) : Option (Int64 × StM) := ((f_X6_lacks u a0).bind fun z1 => (if z1.1 = false then (if (a0 < 0 ∨ 8 ≤ a0.toNatClampNeg) then none else some ((f_X6_placeOf (z1.2.1 a0.toNatClampNeg)), z1.2)) else some (0, z1.2)))
abbrev rmX6_place : Room := { frames := 3, cells := 0, slots := 0, locals := 63 }

def f_X6_bits_ (u : StM) (a0 : Int32) : Option (Int64 × StM) := ((f_X6_lacks u a0).bind fun z1 => (if z1.1 = false then (if (a0 < 0 ∨ 8 ≤ a0.toNatClampNeg) then none else some ((f_X6_bitsOf (z1.2.1 a0.toNatClampNeg)), z1.2)) else some (0, z1.2)))
abbrev rmX6_bits_ : Room := { frames := 3, cells := 0, slots := 0, locals := 63 }

def f_X6_isEndless (u : StM) (a0 : Int32) : Option (Bool × StM) := ((f_X6_lacks u a0).bind fun z1 => (if z1.1 = false then (if (a0 < 0 ∨ 8 ≤ a0.toNatClampNeg) then none else some ((f_X6_isEnd (z1.2.1 a0.toNatClampNeg)), z1.2)) else some (false, z1.2)))
abbrev rmX6_isEndless : Room := { frames := 3, cells := 0, slots := 0, locals := 63 }

def f_X6_isWhole (u : StM) (a0 : Int32) : Option (Bool × StM) := ((f_X6_lacks u a0).bind fun z1 => (if z1.1 = false then (if (a0 < 0 ∨ 8 ≤ a0.toNatClampNeg) then none else (if (f_X6_size (z1.2.1 a0.toNatClampNeg)) = 0 then some (true, z1.2) else (if (f_X6_size (z1.2.1 a0.toNatClampNeg)) = 9218868437227405312 then some (false, z1.2) else ((f_X6_tailOf (f_X6_size (z1.2.1 a0.toNatClampNeg))).bind fun r6 => (if r6 < 0 then some (false, z1.2) else some (true, z1.2)))))) else some (false, z1.2)))
abbrev rmX6_isWhole : Room := { frames := 3, cells := 0, slots := 0, locals := 63 }

def f_X6_isSmall (u : StM) (a0 : Int32) : Option (Bool × StM) := ((f_X6_lacks u a0).bind fun z1 => (if z1.1 = false then (if (a0 < 0 ∨ 8 ≤ a0.toNatClampNeg) then none else some ((f_X6_isLittle (z1.2.1 a0.toNatClampNeg)), z1.2)) else some (false, z1.2)))
abbrev rmX6_isSmall : Room := { frames := 3, cells := 0, slots := 0, locals := 63 }

def f_X6_steps_L14 (u : StM) (a0 : Int32) (a1 : Int32) (a2 : Int32) (a3 : Int64)   : Nat → Int32 → Int32 → Int64 → Option (Int32 × StM)
  | 0, _, _, _ => none
  | n14 + 1, v14_9, v14_8, v14_6 => (if v14_9 < a1 then (if a2 = 117 then (if (f_X6_above v14_6) = v14_6 then (f_X6_steps_L14 u a0 a1 a2 a3 n14 (v14_9 + 1) v14_8 (f_X6_above v14_6)) else (f_X6_steps_L14 u a0 a1 a2 a3 n14 (v14_9 + 1) (v14_8 + 1) (f_X6_above v14_6))) else (if a2 = 100 then (if (f_X6_below v14_6) = v14_6 then (f_X6_steps_L14 u a0 a1 a2 a3 n14 (v14_9 + 1) v14_8 (f_X6_below v14_6)) else (f_X6_steps_L14 u a0 a1 a2 a3 n14 (v14_9 + 1) (v14_8 + 1) (f_X6_below v14_6))) else (if (f_X6_nearer v14_6 a3) = v14_6 then (f_X6_steps_L14 u a0 a1 a2 a3 n14 (v14_9 + 1) v14_8 (f_X6_nearer v14_6 a3)) else (f_X6_steps_L14 u a0 a1 a2 a3 n14 (v14_9 + 1) (v14_8 + 1) (f_X6_nearer v14_6 a3))))) else ((f_X6_becomes u a0 v14_6).bind fun z3 => some (v14_8, z3.2)))
def f_X6_steps (u : StM) (a0 : Int32) (a1 : Int32) (a2 : Int32) (a3 : Int64) : Option (Int32 × StM) := (if (a0 < 0 ∨ 8 ≤ a0.toNatClampNeg) then none else (f_X6_steps_L14 u a0 a1 a2 a3 100 0 0 (u.1 a0.toNatClampNeg)))
abbrev rmX6_steps : Room := { frames := 4, cells := 0, slots := 0, locals := 92 }

def f_X6_up (u : StM) (a0 : Int32) (a1 : Int32) : Option (Int32 × StM) := ((f_X6_lacks u a0).bind fun z1 => (if z1.1 = false then (if (!(f_X6_in a1 0 64)) = false then ((f_X6_steps (z1.2.1, (z1.2.2.1, (z1.2.2.2.1, (z1.2.2.2.2.1, (z1.2.2.2.2.2.1, (z1.2.2.2.2.2.2.1, (z1.2.2.2.2.2.2.2.1, (if (f_X6_in a1 0 64) = true then 0 else 2)))))))) a0 a1 117 0).bind fun z4 => some z4) else some (0, (z1.2.1, (z1.2.2.1, (z1.2.2.2.1, (z1.2.2.2.2.1, (z1.2.2.2.2.2.1, (z1.2.2.2.2.2.2.1, (z1.2.2.2.2.2.2.2.1, (if (f_X6_in a1 0 64) = true then 0 else 2)))))))))) else some (0, z1.2)))
abbrev rmX6_up : Room := { frames := 5, cells := 0, slots := 0, locals := 123 }

def f_X6_down (u : StM) (a0 : Int32) (a1 : Int32) : Option (Int32 × StM) := ((f_X6_lacks u a0).bind fun z1 => (if z1.1 = false then (if (!(f_X6_in a1 0 64)) = false then ((f_X6_steps (z1.2.1, (z1.2.2.1, (z1.2.2.2.1, (z1.2.2.2.2.1, (z1.2.2.2.2.2.1, (z1.2.2.2.2.2.2.1, (z1.2.2.2.2.2.2.2.1, (if (f_X6_in a1 0 64) = true then 0 else 2)))))))) a0 a1 100 0).bind fun z4 => some z4) else some (0, (z1.2.1, (z1.2.2.1, (z1.2.2.2.1, (z1.2.2.2.2.1, (z1.2.2.2.2.2.1, (z1.2.2.2.2.2.2.1, (z1.2.2.2.2.2.2.2.1, (if (f_X6_in a1 0 64) = true then 0 else 2)))))))))) else some (0, z1.2)))
abbrev rmX6_down : Room := { frames := 5, cells := 0, slots := 0, locals := 123 }

def f_X6_toward (u : StM) (a0 : Int32) (a1 : Int32) (a2 : Int32) : Option (Int32 × StM) := ((f_X6_lacks_ u a0 a1).bind fun z1 => (if z1.1 = false then (if (!(f_X6_in a2 0 64)) = false then (if (a1 < 0 ∨ 8 ≤ a1.toNatClampNeg) then none else ((f_X6_steps (z1.2.1, (z1.2.2.1, (z1.2.2.2.1, (z1.2.2.2.2.1, (z1.2.2.2.2.2.1, (z1.2.2.2.2.2.2.1, (z1.2.2.2.2.2.2.2.1, (if (f_X6_in a2 0 64) = true then 0 else 2)))))))) a0 a2 116 (z1.2.1 a1.toNatClampNeg)).bind fun z5 => some z5)) else some (0, (z1.2.1, (z1.2.2.1, (z1.2.2.2.1, (z1.2.2.2.2.1, (z1.2.2.2.2.2.1, (z1.2.2.2.2.2.2.1, (z1.2.2.2.2.2.2.2.1, (if (f_X6_in a2 0 64) = true then 0 else 2)))))))))) else some (0, z1.2)))
abbrev rmX6_toward : Room := { frames := 5, cells := 0, slots := 0, locals := 123 }

def f_X6_placeIn (u : StM) (a0 : Int32) : Option (Int64) := (if (a0 < 0 ∨ 8 ≤ a0.toNatClampNeg) then none else some (f_X6_placeOf (u.1 a0.toNatClampNeg)))
abbrev rmX6_placeIn : Room := { frames := 1, cells := 0, slots := 0, locals := 21 }

def f_X6_walk_L21 (u : StM) (a0 : Int32) (a1 : Int32)   : Nat → Int32 → Int64 → StM → Option (Int32 × StM)
  | 0, _, _, _ => none
  | n21 + 1, v21_5, v21_3, s21 => (if 64 < v21_5 then some ((-1), s21) else ((f_X6_placeIn s21 a1).bind fun r5 => (if (f_X6_placeOf v21_3) = r5 then some (v21_5, s21) else (if (a1 < 0 ∨ 8 ≤ a1.toNatClampNeg) then none else (f_X6_walk_L21 u a0 a1 n21 (v21_5 + 1) (f_X6_nearer v21_3 (s21.1 a1.toNatClampNeg)) s21)))))
def f_X6_walk (u : StM) (a0 : Int32) (a1 : Int32) : Option (Int32 × StM) := ((f_X6_lacks_ u a0 a1).bind fun z1 => (if z1.1 = false then (if (a0 < 0 ∨ 8 ≤ a0.toNatClampNeg) then none else (f_X6_walk_L21 u a0 a1 100 0 (z1.2.1 a0.toNatClampNeg) z1.2)) else some (0, z1.2)))
abbrev rmX6_walk : Room := { frames := 4, cells := 0, slots := 0, locals := 92 }

def f_X6_apart (u : StM) (a0 : Int32) (a1 : Int32) : Option (Int64 × StM) := ((f_X6_lacks_ u a0 a1).bind fun z1 => (if z1.1 = false then ((f_X6_placeIn z1.2 a0).bind fun r3 => ((f_X6_placeIn z1.2 a1).bind fun r4 => (if r4 < r3 then some ((r3 - r4), z1.2) else some ((r4 - r3), z1.2)))) else some (0, z1.2)))
abbrev rmX6_apart : Room := { frames := 3, cells := 0, slots := 0, locals := 64 }

def f_X6_areNext (u : StM) (a0 : Int32) (a1 : Int32) : Option (Bool × StM) := ((f_X6_lacks_ u a0 a1).bind fun z1 => (if z1.1 = false then ((f_X6_placeIn z1.2 a0).bind fun r3 => ((f_X6_placeIn z1.2 a1).bind fun r4 => (if r3 = r4 then some (false, z1.2) else (if (f_X6_areApart r3 r4) = false then some (true, z1.2) else some (false, z1.2))))) else some (false, z1.2)))
abbrev rmX6_areNext : Room := { frames := 3, cells := 0, slots := 0, locals := 64 }

def f_X6_middle (u : StM) (a0 : Int32) (a1 : Int32) (a2 : Int32) : Option (Int64 × StM) := ((f_X6_lacks__ u a0 a1 a2).bind fun z1 => (if z1.1 = false then ((f_X6_placeIn z1.2 a0).bind fun r3 => ((f_X6_placeIn z1.2 a1).bind fun r4 => ((f_X6_becomes z1.2 a2 (f_X6_codeOf (f_X6_middleOf r3 r4))).bind fun z5 => some z5))) else some (0, z1.2)))
abbrev rmX6_middle : Room := { frames := 3, cells := 0, slots := 0, locals := 65 }

def f_X6_halvings_L27 (u : StM) (a0 : Int32) (a1 : Int32)   : Nat → Int32 → Int64 → Int64 → StM → Option (Int32 × StM)
  | 0, _, _, _, _ => none
  | n27 + 1, v27_7, v27_5, v27_3, s27 => (if (f_X6_areApart v27_3 v27_5) = false then some (v27_7, s27) else (f_X6_halvings_L27 u a0 a1 n27 (v27_7 + 1) v27_5 (f_X6_middleOf v27_3 v27_5) s27))
def f_X6_halvings (u : StM) (a0 : Int32) (a1 : Int32) : Option (Int32 × StM) := ((f_X6_lacks_ u a0 a1).bind fun z1 => (if z1.1 = false then ((f_X6_placeIn z1.2 a0).bind fun r3 => ((f_X6_placeIn z1.2 a1).bind fun r4 => (f_X6_halvings_L27 u a0 a1 100 0 r4 r3 z1.2))) else some (0, z1.2)))
abbrev rmX6_halvings : Room := { frames := 3, cells := 0, slots := 0, locals := 64 }

def f_X6_compare (u : StM) (a0 : Int32) (a1 : Int32) : Option (Int32 × StM) := ((f_X6_lacks_ u a0 a1).bind fun z1 => (if z1.1 = false then ((f_X6_placeIn z1.2 a0).bind fun r3 => ((f_X6_placeIn z1.2 a1).bind fun r4 => (if r3 < r4 then some ((-1), z1.2) else (if r4 < r3 then some (1, z1.2) else some (0, z1.2))))) else some (0, z1.2)))
abbrev rmX6_compare : Room := { frames := 3, cells := 0, slots := 0, locals := 64 }

def f_X6_least_L9 (u : StM)   : Nat → Int32 → Int32 → StM → Option (Int32 × StM)
  | 0, _, _, _ => none
  | n9 + 1, v9_2, v9_1, s9 => (if v9_2 < 8 then ((f_X6_placeIn s9 v9_2).bind fun r2 => ((f_X6_placeIn s9 v9_1).bind fun r3 => (if r2 < r3 then (f_X6_least_L9 u n9 (v9_2 + 1) v9_2 s9) else (f_X6_least_L9 u n9 (v9_2 + 1) v9_1 s9)))) else some (v9_1, s9))
def f_X6_least (u : StM) : Option (Int32 × StM) := (f_X6_least_L9 u 100 1 0 (u.1, (u.2.1, (u.2.2.1, (u.2.2.2.1, (u.2.2.2.2.1, (u.2.2.2.2.2.1, (u.2.2.2.2.2.2.1, 0))))))))
abbrev rmX6_least : Room := { frames := 2, cells := 0, slots := 0, locals := 42 }

def f_X6_rank_L14 (u : StM) (a0 : Int32)   : Nat → Int32 → Int32 → StM → Option (Int32 × StM)
  | 0, _, _, _ => none
  | n14 + 1, v14_3, v14_2, s14 => (if v14_3 < 8 then ((f_X6_placeIn s14 v14_3).bind fun r4 => ((f_X6_placeIn s14 a0).bind fun r5 => (if r4 < r5 then (f_X6_rank_L14 u a0 n14 (v14_3 + 1) (v14_2 + 1) s14) else (f_X6_rank_L14 u a0 n14 (v14_3 + 1) v14_2 s14)))) else some (v14_2, s14))
def f_X6_rank (u : StM) (a0 : Int32) : Option (Int32 × StM) := ((f_X6_lacks u a0).bind fun z1 => (if z1.1 = false then (f_X6_rank_L14 u a0 100 0 0 z1.2) else some (0, z1.2)))
abbrev rmX6_rank : Room := { frames := 3, cells := 0, slots := 0, locals := 63 }

def f_X6_scale (u : StM) (a0 : Int32) (a1 : Int32) (a2 : Int32) : Option (Int64 × StM) := ((f_X6_lacks_ u a0 a2).bind fun z1 => (if z1.1 = false then (if (!(f_X6_in a1 (-4200) 4200)) = false then (if (a0 < 0 ∨ 8 ≤ a0.toNatClampNeg) then none else ((f_X6_scaled (z1.2.1 a0.toNatClampNeg) a1).bind fun r5 => ((f_X6_becomes (z1.2.1, (z1.2.2.1, (z1.2.2.2.1, (z1.2.2.2.2.1, (z1.2.2.2.2.2.1, (z1.2.2.2.2.2.2.1, (z1.2.2.2.2.2.2.2.1, (if (f_X6_in a1 (-4200) 4200) = true then 0 else 2)))))))) a2 r5).bind fun z6 => some z6))) else some (0, (z1.2.1, (z1.2.2.1, (z1.2.2.2.1, (z1.2.2.2.2.1, (z1.2.2.2.2.2.1, (z1.2.2.2.2.2.2.1, (z1.2.2.2.2.2.2.2.1, (if (f_X6_in a1 (-4200) 4200) = true then 0 else 2)))))))))) else some (0, z1.2)))
abbrev rmX6_scale : Room := { frames := 3, cells := 0, slots := 0, locals := 64 }

def f_X6_isKept (u : StM) (a0 : Int32) (a1 : Int32) : Option (Bool × StM) := ((f_X6_lacks u a0).bind fun z1 => (if z1.1 = false then (if (!(f_X6_in a1 (-4200) 4200)) = false then (if (a0 < 0 ∨ 8 ≤ a0.toNatClampNeg) then none else ((f_X6_scaled (z1.2.1 a0.toNatClampNeg) a1).bind fun r5 => ((f_X6_scaled r5 (-a1)).bind fun r6 => (if (a0 < 0 ∨ 8 ≤ a0.toNatClampNeg) then none else (if r6 = (z1.2.1 a0.toNatClampNeg) then some (true, (z1.2.1, (z1.2.2.1, (z1.2.2.2.1, (z1.2.2.2.2.1, (z1.2.2.2.2.2.1, (z1.2.2.2.2.2.2.1, (z1.2.2.2.2.2.2.2.1, (if (f_X6_in a1 (-4200) 4200) = true then 0 else 2))))))))) else some (false, (z1.2.1, (z1.2.2.1, (z1.2.2.2.1, (z1.2.2.2.2.1, (z1.2.2.2.2.2.1, (z1.2.2.2.2.2.2.1, (z1.2.2.2.2.2.2.2.1, (if (f_X6_in a1 (-4200) 4200) = true then 0 else 2)))))))))))))) else some (false, (z1.2.1, (z1.2.2.1, (z1.2.2.2.1, (z1.2.2.2.2.1, (z1.2.2.2.2.2.1, (z1.2.2.2.2.2.2.1, (z1.2.2.2.2.2.2.2.1, (if (f_X6_in a1 (-4200) 4200) = true then 0 else 2)))))))))) else some (false, z1.2)))
abbrev rmX6_isKept : Room := { frames := 3, cells := 0, slots := 0, locals := 63 }

def f_X6_isOne (u : StM) (a0 : Int32) (a1 : Int32) (a2 : Int32) : Option (Bool × StM) := ((f_X6_lacks u a0).bind fun z1 => (if z1.1 = false then (if (f_X6_in a1 (-2100) 2100) = false then some (false, (z1.2.1, (z1.2.2.1, (z1.2.2.2.1, (z1.2.2.2.2.1, (z1.2.2.2.2.2.1, (z1.2.2.2.2.2.2.1, (z1.2.2.2.2.2.2.2.1, 2)))))))) else (if (f_X6_in a2 (-2100) 2100) = false then some (false, (z1.2.1, (z1.2.2.1, (z1.2.2.2.1, (z1.2.2.2.2.1, (z1.2.2.2.2.2.1, (z1.2.2.2.2.2.2.1, (z1.2.2.2.2.2.2.2.1, 2)))))))) else (if (a0 < 0 ∨ 8 ≤ a0.toNatClampNeg) then none else ((f_X6_scaled (z1.2.1 a0.toNatClampNeg) a1).bind fun r6 => ((f_X6_scaled r6 a2).bind fun r7 => (if (a0 < 0 ∨ 8 ≤ a0.toNatClampNeg) then none else ((f_X6_scaled (z1.2.1 a0.toNatClampNeg) (a1 + a2)).bind fun r9 => (if r7 = r9 then some (true, (z1.2.1, (z1.2.2.1, (z1.2.2.2.1, (z1.2.2.2.2.1, (z1.2.2.2.2.2.1, (z1.2.2.2.2.2.2.1, (z1.2.2.2.2.2.2.2.1, 0)))))))) else some (false, (z1.2.1, (z1.2.2.1, (z1.2.2.2.1, (z1.2.2.2.2.1, (z1.2.2.2.2.2.1, (z1.2.2.2.2.2.2.1, (z1.2.2.2.2.2.2.2.1, 0)))))))))))))))) else some (false, z1.2)))
abbrev rmX6_isOne : Room := { frames := 3, cells := 0, slots := 0, locals := 63 }

def f_X6_exponent (u : StM) (a0 : Int32) : Option (Int32 × StM) := ((f_X6_lacks u a0).bind fun z1 => (if z1.1 = false then (if (a0 < 0 ∨ 8 ≤ a0.toNatClampNeg) then none else some ((f_X6_exponentOf (z1.2.1 a0.toNatClampNeg)), z1.2)) else some (0, z1.2)))
abbrev rmX6_exponent : Room := { frames := 3, cells := 0, slots := 0, locals := 63 }

def f_X6_unit (u : StM) (a0 : Int32) (a1 : Int32) : Option (Int64 × StM) := ((f_X6_lacks_ u a0 a1).bind fun z1 => (if z1.1 = false then (if (a0 < 0 ∨ 8 ≤ a0.toNatClampNeg) then none else ((f_X6_unitOf (z1.2.1 a0.toNatClampNeg)).bind fun r4 => ((f_X6_becomes z1.2 a1 r4).bind fun z5 => some z5))) else some (0, z1.2)))
abbrev rmX6_unit : Room := { frames := 3, cells := 0, slots := 0, locals := 64 }

def f_X6_lacksSize (u : StM) (a0 : Int32) (a1 : Int32) : Option (Bool × StM) := ((f_X6_lacks_ u a0 a1).bind fun z1 => (if z1.1 = false then (if (a0 < 0 ∨ 8 ≤ a0.toNatClampNeg) then none else (if (f_X6_isNothing (z1.2.1 a0.toNatClampNeg)) = false then (if (a0 < 0 ∨ 8 ≤ a0.toNatClampNeg) then none else (if (f_X6_isEnd (z1.2.1 a0.toNatClampNeg)) = false then some (false, (z1.2.1, (z1.2.2.1, (z1.2.2.2.1, (z1.2.2.2.2.1, (z1.2.2.2.2.2.1, (z1.2.2.2.2.2.2.1, (z1.2.2.2.2.2.2.2.1, 0)))))))) else some (true, (z1.2.1, (z1.2.2.1, (z1.2.2.2.1, (z1.2.2.2.2.1, (z1.2.2.2.2.2.1, (z1.2.2.2.2.2.2.1, (z1.2.2.2.2.2.2.2.1, 2)))))))))) else some (true, (z1.2.1, (z1.2.2.1, (z1.2.2.2.1, (z1.2.2.2.2.1, (z1.2.2.2.2.2.1, (z1.2.2.2.2.2.2.1, (z1.2.2.2.2.2.2.2.1, 2)))))))))) else some (true, z1.2)))
abbrev rmX6_lacksSize : Room := { frames := 3, cells := 0, slots := 0, locals := 64 }

def f_X6_lead (u : StM) (a0 : Int32) : Option (Int32 × StM) := ((f_X6_lacksSize u a0 a0).bind fun z1 => (if z1.1 = false then (if (a0 < 0 ∨ 8 ≤ a0.toNatClampNeg) then none else ((f_X6_leadOf (f_X6_size (z1.2.1 a0.toNatClampNeg))).bind fun r4 => some (r4, z1.2))) else some (0, z1.2)))
abbrev rmX6_lead : Room := { frames := 4, cells := 0, slots := 0, locals := 86 }

def f_X6_tail (u : StM) (a0 : Int32) : Option (Int32 × StM) := ((f_X6_lacksSize u a0 a0).bind fun z1 => (if z1.1 = false then (if (a0 < 0 ∨ 8 ≤ a0.toNatClampNeg) then none else ((f_X6_tailOf (f_X6_size (z1.2.1 a0.toNatClampNeg))).bind fun r4 => some (r4, z1.2))) else some (0, z1.2)))
abbrev rmX6_tail : Room := { frames := 4, cells := 0, slots := 0, locals := 86 }

def f_X6_power (u : StM) (a0 : Int32) (a1 : Int32) : Option (Int64 × StM) := ((f_X6_lacksSize u a0 a1).bind fun z1 => (if z1.1 = false then (if (a0 < 0 ∨ 8 ≤ a0.toNatClampNeg) then none else ((f_X6_leadOf (f_X6_size (z1.2.1 a0.toNatClampNeg))).bind fun r4 => ((f_X6_made 1 (r4 + 1074)).bind fun r5 => ((f_X6_becomes z1.2 a1 r5).bind fun z6 => some z6)))) else some (0, z1.2)))
abbrev rmX6_power : Room := { frames := 4, cells := 0, slots := 0, locals := 86 }

def f_X6_grains (u : StM) (a0 : Int32) (a1 : Int32) : Option (Int32 × StM) := ((f_X6_lacks u a0).bind fun z1 => (if z1.1 = false then (if (!(f_X6_in a1 1 1000000)) = false then (if (a0 < 0 ∨ 8 ≤ a0.toNatClampNeg) then none else (if (f_X6_isEnd (z1.2.1 a0.toNatClampNeg)) = false then (if (a0 < 0 ∨ 8 ≤ a0.toNatClampNeg) then none else ((f_X6_rest (z1.2.1 a0.toNatClampNeg) a1).bind fun r7 => some ((r7.toInt32), (z1.2.1, (z1.2.2.1, (z1.2.2.2.1, (z1.2.2.2.2.1, (z1.2.2.2.2.2.1, (z1.2.2.2.2.2.2.1, (z1.2.2.2.2.2.2.2.1, 0)))))))))) else some (0, (z1.2.1, (z1.2.2.1, (z1.2.2.2.1, (z1.2.2.2.2.1, (z1.2.2.2.2.2.1, (z1.2.2.2.2.2.2.1, (z1.2.2.2.2.2.2.2.1, 3)))))))))) else some (0, (z1.2.1, (z1.2.2.1, (z1.2.2.2.1, (z1.2.2.2.2.1, (z1.2.2.2.2.2.1, (z1.2.2.2.2.2.2.1, (z1.2.2.2.2.2.2.2.1, (if (f_X6_in a1 1 1000000) = true then 0 else 2)))))))))) else some (0, z1.2)))
abbrev rmX6_grains : Room := { frames := 3, cells := 0, slots := 0, locals := 63 }

def f_X6_gap (u : StM) (a0 : Int32) (a1 : Int32) (a2 : Int32) : Option (Int32 × StM) := ((f_X6_lacks_ u a0 a1).bind fun z1 => (if z1.1 = false then (if (!(f_X6_in a2 1 1000000)) = false then (if (a0 < 0 ∨ 8 ≤ a0.toNatClampNeg) then none else (if (f_X6_isEnd (z1.2.1 a0.toNatClampNeg)) = false then (if (a1 < 0 ∨ 8 ≤ a1.toNatClampNeg) then none else (if (f_X6_isEnd (z1.2.1 a1.toNatClampNeg)) = false then ((f_X6_placeIn (z1.2.1, (z1.2.2.1, (z1.2.2.2.1, (z1.2.2.2.2.1, (z1.2.2.2.2.2.1, (z1.2.2.2.2.2.2.1, (z1.2.2.2.2.2.2.2.1, 0))))))) a0).bind fun r8 => ((f_X6_placeIn (z1.2.1, (z1.2.2.1, (z1.2.2.2.1, (z1.2.2.2.2.1, (z1.2.2.2.2.2.1, (z1.2.2.2.2.2.2.1, (z1.2.2.2.2.2.2.2.1, 0))))))) a1).bind fun r9 => (if r8 < r9 then (if (a1 < 0 ∨ 8 ≤ a1.toNatClampNeg) then none else (if (a0 < 0 ∨ 8 ≤ a0.toNatClampNeg) then none else ((f_X6_restOf (z1.2.1 a1.toNatClampNeg) a2).bind fun r13 => ((f_X6_restOf (z1.2.1 a0.toNatClampNeg) a2).bind fun r14 => (if (a2.toInt64) = 0 then none else some (((((r13 + (a2.toInt64)) - r14) - ((r13 + (a2.toInt64)) - r14) / (a2.toInt64) * (a2.toInt64)).toInt32), (z1.2.1, (z1.2.2.1, (z1.2.2.2.1, (z1.2.2.2.2.1, (z1.2.2.2.2.2.1, (z1.2.2.2.2.2.2.1, (z1.2.2.2.2.2.2.2.1, 0))))))))))))) else (if (a0 < 0 ∨ 8 ≤ a0.toNatClampNeg) then none else (if (a1 < 0 ∨ 8 ≤ a1.toNatClampNeg) then none else ((f_X6_restOf (z1.2.1 a0.toNatClampNeg) a2).bind fun r18 => ((f_X6_restOf (z1.2.1 a1.toNatClampNeg) a2).bind fun r19 => (if (a2.toInt64) = 0 then none else some (((((r18 + (a2.toInt64)) - r19) - ((r18 + (a2.toInt64)) - r19) / (a2.toInt64) * (a2.toInt64)).toInt32), (z1.2.1, (z1.2.2.1, (z1.2.2.2.1, (z1.2.2.2.2.1, (z1.2.2.2.2.2.1, (z1.2.2.2.2.2.2.1, (z1.2.2.2.2.2.2.2.1, 0)))))))))))))))) else some (0, (z1.2.1, (z1.2.2.1, (z1.2.2.2.1, (z1.2.2.2.2.1, (z1.2.2.2.2.2.1, (z1.2.2.2.2.2.2.1, (z1.2.2.2.2.2.2.2.1, 3)))))))))) else some (0, (z1.2.1, (z1.2.2.1, (z1.2.2.2.1, (z1.2.2.2.2.1, (z1.2.2.2.2.2.1, (z1.2.2.2.2.2.2.1, (z1.2.2.2.2.2.2.2.1, 3)))))))))) else some (0, (z1.2.1, (z1.2.2.1, (z1.2.2.2.1, (z1.2.2.2.2.1, (z1.2.2.2.2.2.1, (z1.2.2.2.2.2.2.1, (z1.2.2.2.2.2.2.2.1, (if (f_X6_in a2 1 1000000) = true then 0 else 2)))))))))) else some (0, z1.2)))
abbrev rmX6_gap : Room := { frames := 3, cells := 0, slots := 0, locals := 68 }

def f_X6_compareGaps_L147 (u : StM) (a0 : Int32) (a1 : Int32) (a2 : Int32) (a3 : Int32)   : Nat → Int32 → StM → (Nat → Int64) → (Nat → Int64) → Option (Int32 × StM)
  | 0, _, _, _, _ => none
  | n147 + 1, v147_7, s147, s147_6, s147_7 => (if v147_7 < 0 then some (0, s147) else (if (v147_7 < 0 ∨ 72 ≤ v147_7.toNatClampNeg) then none else (if (v147_7 < 0 ∨ 72 ≤ v147_7.toNatClampNeg) then none else (if (s147_6 v147_7.toNatClampNeg) = (s147_7 v147_7.toNatClampNeg) then (f_X6_compareGaps_L147 u a0 a1 a2 a3 n147 (v147_7 + (-1)) s147 s147_6 s147_7) else (if (v147_7 < 0 ∨ 72 ≤ v147_7.toNatClampNeg) then none else (if (v147_7 < 0 ∨ 72 ≤ v147_7.toNatClampNeg) then none else (if (s147_6 v147_7.toNatClampNeg) < (s147_7 v147_7.toNatClampNeg) then some ((-1), s147) else some (1, s147))))))))
def f_X6_compareGaps (u : StM) (a0 : Int32) (a1 : Int32) (a2 : Int32) (a3 : Int32) : Option (Int32 × StM) := (if (f_X6_isSlot a0) = false then some (0, (u.1, (u.2.1, (u.2.2.1, (u.2.2.2.1, (u.2.2.2.2.1, (u.2.2.2.2.2.1, (u.2.2.2.2.2.2.1, 1)))))))) else (if (f_X6_isSlot a1) = false then some (0, (u.1, (u.2.1, (u.2.2.1, (u.2.2.2.1, (u.2.2.2.2.1, (u.2.2.2.2.2.1, (u.2.2.2.2.2.2.1, 1)))))))) else (if (f_X6_isSlot a2) = false then some (0, (u.1, (u.2.1, (u.2.2.1, (u.2.2.2.1, (u.2.2.2.2.1, (u.2.2.2.2.2.1, (u.2.2.2.2.2.2.1, 1)))))))) else (if (f_X6_isSlot a3) = false then some (0, (u.1, (u.2.1, (u.2.2.1, (u.2.2.2.1, (u.2.2.2.2.1, (u.2.2.2.2.2.1, (u.2.2.2.2.2.2.1, 1)))))))) else (if (a0 < 0 ∨ 8 ≤ a0.toNatClampNeg) then none else (if (f_X6_isEnd (u.1 a0.toNatClampNeg)) = false then (if (a1 < 0 ∨ 8 ≤ a1.toNatClampNeg) then none else (if (f_X6_isEnd (u.1 a1.toNatClampNeg)) = false then (if (a2 < 0 ∨ 8 ≤ a2.toNatClampNeg) then none else (if (f_X6_isEnd (u.1 a2.toNatClampNeg)) = false then (if (a3 < 0 ∨ 8 ≤ a3.toNatClampNeg) then none else (if (f_X6_isEnd (u.1 a3.toNatClampNeg)) = false then (if (a0 < 0 ∨ 8 ≤ a0.toNatClampNeg) then none else (if (a1 < 0 ∨ 8 ≤ a1.toNatClampNeg) then none else ((f_X6_far (u.1 a0.toNatClampNeg) (u.1 a1.toNatClampNeg)).bind fun z15 => (if (a2 < 0 ∨ 8 ≤ a2.toNatClampNeg) then none else (if (a3 < 0 ∨ 8 ≤ a3.toNatClampNeg) then none else ((f_X6_far (u.1 a2.toNatClampNeg) (u.1 a3.toNatClampNeg)).bind fun z19 => (f_X6_compareGaps_L147 u a0 a1 a2 a3 100 71 (u.1, (u.2.1, (u.2.2.1, (u.2.2.2.1, (u.2.2.2.2.1, (u.2.2.2.2.2.1, (u.2.2.2.2.2.2.1, 0))))))) z15 z19))))))) else some (0, (u.1, (u.2.1, (u.2.2.1, (u.2.2.2.1, (u.2.2.2.2.1, (u.2.2.2.2.2.1, (u.2.2.2.2.2.2.1, 2)))))))))) else some (0, (u.1, (u.2.1, (u.2.2.1, (u.2.2.2.1, (u.2.2.2.2.1, (u.2.2.2.2.2.1, (u.2.2.2.2.2.2.1, 2)))))))))) else some (0, (u.1, (u.2.1, (u.2.2.1, (u.2.2.2.1, (u.2.2.2.2.1, (u.2.2.2.2.2.1, (u.2.2.2.2.2.2.1, 2)))))))))) else some (0, (u.1, (u.2.1, (u.2.2.1, (u.2.2.2.1, (u.2.2.2.2.1, (u.2.2.2.2.2.1, (u.2.2.2.2.2.2.1, 2))))))))))))))
abbrev rmX6_compareGaps : Room := { frames := 3, cells := 6, slots := 432, locals := 71 }

def f_X6_say (u : StM) (a0 : Int32) (a1 : Int32) : Option (Int32 × StM) := (if (!(f_X6_isWord a0 a1)) = false then (if u.2.2.2.2.2.2.1 < 40 then (if (u.2.2.2.2.2.2.1 < 0 ∨ 40 ≤ u.2.2.2.2.2.2.1.toNatClampNeg) then none else (if (u.2.2.2.2.2.2.1 < 0 ∨ 40 ≤ u.2.2.2.2.2.2.1.toNatClampNeg) then none else some ((u.2.2.2.2.2.2.1 + 1), (u.1, (u.2.1, (u.2.2.1, (u.2.2.2.1, ((upd u.2.2.2.2.1 u.2.2.2.2.2.2.1.toNatClampNeg (vp_nar .char a0)), ((upd u.2.2.2.2.2.1 u.2.2.2.2.2.2.1.toNatClampNeg a1), ((u.2.2.2.2.2.2.1 + 1), 0)))))))))) else some (0, (u.1, (u.2.1, (u.2.2.1, (u.2.2.2.1, (u.2.2.2.2.1, (u.2.2.2.2.2.1, (u.2.2.2.2.2.2.1, 2))))))))) else some (0, (u.1, (u.2.1, (u.2.2.1, (u.2.2.2.1, (u.2.2.2.2.1, (u.2.2.2.2.2.1, (u.2.2.2.2.2.2.1, (if (f_X6_isWord a0 a1) = true then 0 else 1))))))))))
abbrev rmX6_say : Room := { frames := 2, cells := 0, slots := 0, locals := 43 }

def f_X6_hush (u : StM) : Option (Int32 × StM) := some (u.2.2.2.2.2.2.1, (u.1, (u.2.1, (u.2.2.1, (u.2.2.2.1, (u.2.2.2.2.1, (u.2.2.2.2.2.1, (0, 0))))))))
abbrev rmX6_hush : Room := { frames := 0, cells := 0, slots := 0, locals := 0 }

def f_X6_done_L59 (u : StM) (a0 : Int32) (a1 : Int64) (a2 : Bool)   : Nat → Int32 → Int64 → Int32 → Int32 → Int32 → Option (Int64)
  | 0, _, _, _, _, _ => none
  | n59 + 1, v59_9, v59_7, v59_6, v59_5, v59_4 => (if v59_9 < v59_6 then (if v59_5 = 117 then (if 1 = v59_4 then (f_X6_done_L59 u a0 a1 a2 n59 (v59_9 + 1) (f_X6_below v59_7) v59_6 v59_5 v59_4) else (f_X6_done_L59 u a0 a1 a2 n59 (v59_9 + 1) (f_X6_above v59_7) v59_6 v59_5 v59_4)) else (if 0 = v59_4 then (f_X6_done_L59 u a0 a1 a2 n59 (v59_9 + 1) (f_X6_below v59_7) v59_6 v59_5 v59_4) else (f_X6_done_L59 u a0 a1 a2 n59 (v59_9 + 1) (f_X6_above v59_7) v59_6 v59_5 v59_4))) else some v59_7)
def f_X6_done (u : StM) (a0 : Int32) (a1 : Int64) (a2 : Bool) : Option (Int64) := (if (a0 < 0 ∨ 40 ≤ a0.toNatClampNeg) then none else (if (a0 < 0 ∨ 40 ≤ a0.toNatClampNeg) then none else (if (u.2.2.2.2.1 a0.toNatClampNeg) = 110 then some (f_X6_opposite a1) else (if (u.2.2.2.2.1 a0.toNatClampNeg) = 120 then (if a2 = false then ((f_X6_scaled a1 (u.2.2.2.2.2.1 a0.toNatClampNeg)).bind fun r10 => some r10) else ((f_X6_scaled a1 (-(u.2.2.2.2.2.1 a0.toNatClampNeg))).bind fun r11 => some r11)) else (f_X6_done_L59 u a0 a1 a2 100 0 a1 (u.2.2.2.2.2.1 a0.toNatClampNeg) (u.2.2.2.2.1 a0.toNatClampNeg) (b2i a2))))))
abbrev rmX6_done : Room := { frames := 3, cells := 0, slots := 0, locals := 65 }

def f_X6_played_L5 (u : StM) (a0 : Int64)   : Nat → Int32 → Int64 → Option (Int64)
  | 0, _, _ => none
  | n5 + 1, v5_5, v5_3 => (if v5_5 < u.2.2.2.2.2.2.1 then ((f_X6_done u v5_5 v5_3 false).bind fun r2 => (f_X6_played_L5 u a0 n5 (v5_5 + 1) r2)) else some v5_3)
def f_X6_played (u : StM) (a0 : Int64) : Option (Int64) := (f_X6_played_L5 u a0 100 0 a0)
abbrev rmX6_played : Room := { frames := 4, cells := 0, slots := 0, locals := 94 }

def f_X6_playedBack_L10 (u : StM) (a0 : Int64)   : Nat → Int32 → Int64 → Option (Int64)
  | 0, _, _ => none
  | n10 + 1, v10_5, v10_3 => (if v10_5 < 0 then some v10_3 else ((f_X6_done u v10_5 v10_3 true).bind fun r2 => (f_X6_playedBack_L10 u a0 n10 (v10_5 + (-1)) r2)))
def f_X6_playedBack (u : StM) (a0 : Int64) : Option (Int64) := (f_X6_playedBack_L10 u a0 100 (u.2.2.2.2.2.2.1 - 1) a0)
abbrev rmX6_playedBack : Room := { frames := 4, cells := 0, slots := 0, locals := 94 }

def f_X6_play (u : StM) (a0 : Int32) (a1 : Int32) : Option (Int64 × StM) := ((f_X6_lacks_ u a0 a1).bind fun z1 => (if z1.1 = false then (if (a0 < 0 ∨ 8 ≤ a0.toNatClampNeg) then none else ((f_X6_played z1.2 (z1.2.1 a0.toNatClampNeg)).bind fun r4 => ((f_X6_becomes z1.2 a1 r4).bind fun z5 => some z5))) else some (0, z1.2)))
abbrev rmX6_play : Room := { frames := 5, cells := 0, slots := 0, locals := 119 }

def f_X6_playBack (u : StM) (a0 : Int32) (a1 : Int32) : Option (Int64 × StM) := ((f_X6_lacks_ u a0 a1).bind fun z1 => (if z1.1 = false then (if (a0 < 0 ∨ 8 ≤ a0.toNatClampNeg) then none else ((f_X6_playedBack z1.2 (z1.2.1 a0.toNatClampNeg)).bind fun r4 => ((f_X6_becomes z1.2 a1 r4).bind fun z5 => some z5))) else some (0, z1.2)))
abbrev rmX6_playBack : Room := { frames := 5, cells := 0, slots := 0, locals := 119 }

def f_X6_isHome (u : StM) (a0 : Int32) : Option (Bool × StM) := ((f_X6_lacks u a0).bind fun z1 => (if z1.1 = false then (if (a0 < 0 ∨ 8 ≤ a0.toNatClampNeg) then none else ((f_X6_played z1.2 (z1.2.1 a0.toNatClampNeg)).bind fun r4 => ((f_X6_playedBack z1.2 r4).bind fun r5 => (if (a0 < 0 ∨ 8 ≤ a0.toNatClampNeg) then none else (if r5 = (z1.2.1 a0.toNatClampNeg) then some (true, z1.2) else some (false, z1.2)))))) else some (false, z1.2)))
abbrev rmX6_isHome : Room := { frames := 5, cells := 0, slots := 0, locals := 119 }

def f_X6_losses_L23 (u : StM) (a0 : Int32)   : Nat → Int32 → Int32 → Int64 → StM → Option (Int32 × StM)
  | 0, _, _, _, _ => none
  | n23 + 1, v23_5, v23_4, v23_2, s23 => (if v23_5 < s23.2.2.2.2.2.2.1 then ((f_X6_done s23 v23_5 v23_2 false).bind fun r5 => ((f_X6_done s23 v23_5 r5 true).bind fun r6 => (if r6 = v23_2 then (f_X6_losses_L23 u a0 n23 (v23_5 + 1) v23_4 r5 s23) else (f_X6_losses_L23 u a0 n23 (v23_5 + 1) (v23_4 + 1) r5 s23)))) else some (v23_4, s23))
def f_X6_losses (u : StM) (a0 : Int32) : Option (Int32 × StM) := ((f_X6_lacks u a0).bind fun z1 => (if z1.1 = false then (if (a0 < 0 ∨ 8 ≤ a0.toNatClampNeg) then none else (f_X6_losses_L23 u a0 100 0 0 (z1.2.1 a0.toNatClampNeg) z1.2)) else some (0, z1.2)))
abbrev rmX6_losses : Room := { frames := 4, cells := 0, slots := 0, locals := 94 }

def f_X6_share_L9 (u : StM)   : Nat → Int32 → Int32 → StM → Option (UInt32 × StM)
  | 0, _, _, _ => none
  | n9 + 1, v9_2, v9_1, s9 => (if v9_2 < 8 then (if (v9_2 < 0 ∨ 8 ≤ v9_2.toNatClampNeg) then none else (if (f_X6_isLittle (s9.1 v9_2.toNatClampNeg)) = false then (f_X6_share_L9 u n9 (v9_2 + 1) (v9_1 + 0) s9) else (f_X6_share_L9 u n9 (v9_2 + 1) (v9_1 + 1) s9))) else (if ¬ ((FP.fdiv (FP.i2f v9_1) 1090519040) &&& 0x7fffffff ≤ 0x7f800000) then none else some ((FP.fdiv (FP.i2f v9_1) 1090519040), s9)))
def f_X6_share (u : StM) : Option (UInt32 × StM) := (f_X6_share_L9 u 100 0 0 (u.1, (u.2.1, (u.2.2.1, (u.2.2.2.1, (u.2.2.2.2.1, (u.2.2.2.2.2.1, (u.2.2.2.2.2.2.1, 0))))))))
abbrev rmX6_share : Room := { frames := 2, cells := 0, slots := 0, locals := 42 }

def f_X6_meanExponent_L9 (u : StM)   : Nat → Int32 → Int32 → StM → Option (UInt64 × StM)
  | 0, _, _, _ => none
  | n9 + 1, v9_2, v9_1, s9 => (if v9_2 < 8 then (if (v9_2 < 0 ∨ 8 ≤ v9_2.toNatClampNeg) then none else (f_X6_meanExponent_L9 u n9 (v9_2 + 1) (v9_1 + (f_X6_exponentOf (s9.1 v9_2.toNatClampNeg))) s9)) else (if ¬ ((FP.ddiv (FP.i2d v9_1) 4620693217682128896) &&& 0x7fffffffffffffff ≤ 0x7ff0000000000000) then none else some ((FP.ddiv (FP.i2d v9_1) 4620693217682128896), s9)))
def f_X6_meanExponent (u : StM) : Option (UInt64 × StM) := (f_X6_meanExponent_L9 u 100 0 0 (u.1, (u.2.1, (u.2.2.1, (u.2.2.2.1, (u.2.2.2.2.1, (u.2.2.2.2.2.1, (u.2.2.2.2.2.2.1, 0))))))))
abbrev rmX6_meanExponent : Room := { frames := 2, cells := 0, slots := 0, locals := 42 }

def f_X6_checksum_L53 (u : StM)   : Nat → Int32 → Int64 → StM → Option (Int64 × StM)
  | 0, _, _, _ => none
  | n53 + 1, v53_3, v53_1, s53 => (if v53_3 < s53.2.2.2.2.2.2.1 then (if (v53_3 < 0 ∨ 40 ≤ v53_3.toNatClampNeg) then none else (if (v53_3 < 0 ∨ 40 ≤ v53_3.toNatClampNeg) then none else (f_X6_checksum_L53 u n53 (v53_3 + 1) ((31 * ((31 * v53_1) + ((s53.2.2.2.2.1 v53_3.toNatClampNeg).toInt64))) + ((s53.2.2.2.2.2.1 v53_3.toNatClampNeg).toInt64)) s53))) else some (v53_1, s53))
def f_X6_checksum_L11 (u : StM)   : Nat → Int32 → Int64 → StM → Option (Int64 × StM)
  | 0, _, _, _ => none
  | n11 + 1, v11_3, v11_1, s11 => (if v11_3 < 8 then (if (v11_3 < 0 ∨ 8 ≤ v11_3.toNatClampNeg) then none else (f_X6_checksum_L11 u n11 (v11_3 + 1) ((31 * v11_1) + (f_X6_bitsOf (s11.1 v11_3.toNatClampNeg))) s11)) else (f_X6_checksum_L53 u 100 0 ((31 * v11_1) + (s11.2.2.2.2.2.2.1.toInt64)) s11))
def f_X6_checksum (u : StM) : Option (Int64 × StM) := (f_X6_checksum_L11 u 100 0 7 (u.1, (u.2.1, (u.2.2.1, (u.2.2.2.1, (u.2.2.2.2.1, (u.2.2.2.2.2.1, (u.2.2.2.2.2.2.1, 0))))))))
abbrev rmX6_checksum : Room := { frames := 2, cells := 0, slots := 0, locals := 42 }

def f_X6_isSound (u : StM) : Option (Bool × StM) := some (true, (u.1, (u.2.1, (u.2.2.1, (u.2.2.2.1, (u.2.2.2.2.1, (u.2.2.2.2.2.1, (u.2.2.2.2.2.2.1, 0))))))))
abbrev rmX6_isSound : Room := { frames := 0, cells := 0, slots := 0, locals := 0 }

def f_L_set (u : SH) (a1 : Int32) (a2 : Int32) (a3 : Int32) : Option (Int32 × SH) := (xh (f_X5_set u.1 a1 a2 a3) (fun z1 => some (0, (z1.2, (vp_updL u.2 (0 : Int32).toNatClampNeg z1.1)))) (fun E => (if E = "java/lang/IndexOutOfBoundsException" then some (1, u) else (if E = "java/lang/IllegalArgumentException" then some (2, u) else none))))
abbrev rmL_set : Room := { frames := 8, cells := 3, slots := 18, locals := 135 }

def f_L_end (u : SH) (a1 : Int32) (a2 : Bool) : Option (Int32 × SH) := (xh (f_X5_end u.1 a1 a2) (fun z1 => some (0, (z1.2, (vp_updL u.2 (0 : Int32).toNatClampNeg z1.1)))) (fun E => (if E = "java/lang/IndexOutOfBoundsException" then some (1, u) else none)))
abbrev rmL_end : Room := { frames := 8, cells := 1, slots := 6, locals := 132 }

def f_L_copy (u : SH) (a1 : Int32) (a2 : Int32) : Option (Int32 × SH) := (xh (f_X5_copy u.1 a1 a2) (fun z1 => some (0, (z1.2, (vp_updL u.2 (0 : Int32).toNatClampNeg z1.1)))) (fun E => (if E = "java/lang/IndexOutOfBoundsException" then some (1, u) else none)))
abbrev rmL_copy : Room := { frames := 8, cells := 2, slots := 12, locals := 132 }

def f_L_negate (u : SH) (a1 : Int32) (a2 : Int32) : Option (Int32 × SH) := (xh (f_X5_negate u.1 a1 a2) (fun z1 => some (0, (z1.2, (vp_updL u.2 (0 : Int32).toNatClampNeg z1.1)))) (fun E => (if E = "java/lang/IndexOutOfBoundsException" then some (1, u) else none)))
abbrev rmL_negate : Room := { frames := 8, cells := 2, slots := 12, locals := 132 }

def f_L_place (u : SH) (a1 : Int32) : Option (Int32 × SH) := (xh (f_X5_place u.1 a1) (fun z1 => some (0, (u.1, (vp_updL u.2 (0 : Int32).toNatClampNeg z1)))) (fun E => (if E = "java/lang/IndexOutOfBoundsException" then some (1, u) else none)))
abbrev rmL_place : Room := { frames := 8, cells := 1, slots := 6, locals := 131 }

def f_L_bits (u : SH) (a1 : Int32) : Option (Int32 × SH) := (xh (f_X5_bits u.1 a1) (fun z1 => some (0, (u.1, (vp_updL u.2 (0 : Int32).toNatClampNeg z1)))) (fun E => (if E = "java/lang/IndexOutOfBoundsException" then some (1, u) else none)))
abbrev rmL_bits : Room := { frames := 8, cells := 1, slots := 6, locals := 131 }

def f_L_isEndless (u : SH) (a1 : Int32) : Option (Int32 × SH) := (xh (f_X5_isEndless u.1 a1) (fun z1 => (if z1 = false then some (0, (u.1, (vp_updL u.2 (0 : Int32).toNatClampNeg 0))) else some (0, (u.1, (vp_updL u.2 (0 : Int32).toNatClampNeg 1))))) (fun E => (if E = "java/lang/IndexOutOfBoundsException" then some (1, u) else none)))
abbrev rmL_isEndless : Room := { frames := 8, cells := 1, slots := 6, locals := 131 }

def f_L_isWhole (u : SH) (a1 : Int32) : Option (Int32 × SH) := (xh (f_X5_isWhole u.1 a1) (fun z1 => (if z1 = false then some (0, (u.1, (vp_updL u.2 (0 : Int32).toNatClampNeg 0))) else some (0, (u.1, (vp_updL u.2 (0 : Int32).toNatClampNeg 1))))) (fun E => (if E = "java/lang/IndexOutOfBoundsException" then some (1, u) else none)))
abbrev rmL_isWhole : Room := { frames := 8, cells := 1, slots := 6, locals := 131 }

def f_L_isSmall (u : SH) (a1 : Int32) : Option (Int32 × SH) := (xh (f_X5_isSmall u.1 a1) (fun z1 => (if z1 = false then some (0, (u.1, (vp_updL u.2 (0 : Int32).toNatClampNeg 0))) else some (0, (u.1, (vp_updL u.2 (0 : Int32).toNatClampNeg 1))))) (fun E => (if E = "java/lang/IndexOutOfBoundsException" then some (1, u) else none)))
abbrev rmL_isSmall : Room := { frames := 8, cells := 1, slots := 6, locals := 131 }

def f_L_up (u : SH) (a1 : Int32) (a2 : Int32) : Option (Int32 × SH) := (xh (f_X5_up u.1 a1 a2) (fun z1 => some (0, (z1.2, (vp_updL u.2 (0 : Int32).toNatClampNeg (z1.1.toInt64))))) (fun E => (if E = "java/lang/IndexOutOfBoundsException" then some (1, u) else (if E = "java/lang/IllegalArgumentException" then some (2, u) else none))))
abbrev rmL_up : Room := { frames := 8, cells := 2, slots := 12, locals := 136 }

def f_L_down (u : SH) (a1 : Int32) (a2 : Int32) : Option (Int32 × SH) := (xh (f_X5_down u.1 a1 a2) (fun z1 => some (0, (z1.2, (vp_updL u.2 (0 : Int32).toNatClampNeg (z1.1.toInt64))))) (fun E => (if E = "java/lang/IndexOutOfBoundsException" then some (1, u) else (if E = "java/lang/IllegalArgumentException" then some (2, u) else none))))
abbrev rmL_down : Room := { frames := 8, cells := 2, slots := 12, locals := 136 }

def f_L_toward (u : SH) (a1 : Int32) (a2 : Int32) (a3 : Int32) : Option (Int32 × SH) := (xh (f_X5_toward u.1 a1 a2 a3) (fun z1 => some (0, (z1.2, (vp_updL u.2 (0 : Int32).toNatClampNeg (z1.1.toInt64))))) (fun E => (if E = "java/lang/IndexOutOfBoundsException" then some (1, u) else (if E = "java/lang/IllegalArgumentException" then some (2, u) else none))))
abbrev rmL_toward : Room := { frames := 8, cells := 3, slots := 18, locals := 143 }

def f_L_walk (u : SH) (a1 : Int32) (a2 : Int32) : Option (Int32 × SH) := (xh (f_X5_walk u.1 a1 a2) (fun z1 => some (0, (u.1, (vp_updL u.2 (0 : Int32).toNatClampNeg (z1.toInt64))))) (fun E => (if E = "java/lang/IndexOutOfBoundsException" then some (1, u) else none)))
abbrev rmL_walk : Room := { frames := 8, cells := 2, slots := 12, locals := 134 }

def f_L_apart (u : SH) (a1 : Int32) (a2 : Int32) : Option (Int32 × SH) := (xh (f_X5_apart u.1 a1 a2) (fun z1 => some (0, (u.1, (vp_updL u.2 (0 : Int32).toNatClampNeg z1)))) (fun E => (if E = "java/lang/IndexOutOfBoundsException" then some (1, u) else none)))
abbrev rmL_apart : Room := { frames := 8, cells := 2, slots := 12, locals := 132 }

def f_L_areNext (u : SH) (a1 : Int32) (a2 : Int32) : Option (Int32 × SH) := (xh (f_X5_areNext u.1 a1 a2) (fun z1 => (if z1 = false then some (0, (u.1, (vp_updL u.2 (0 : Int32).toNatClampNeg 0))) else some (0, (u.1, (vp_updL u.2 (0 : Int32).toNatClampNeg 1))))) (fun E => (if E = "java/lang/IndexOutOfBoundsException" then some (1, u) else none)))
abbrev rmL_areNext : Room := { frames := 8, cells := 2, slots := 12, locals := 132 }

def f_L_middle (u : SH) (a1 : Int32) (a2 : Int32) (a3 : Int32) : Option (Int32 × SH) := (xh (f_X5_middle u.1 a1 a2 a3) (fun z1 => some (0, (z1.2, (vp_updL u.2 (0 : Int32).toNatClampNeg z1.1)))) (fun E => (if E = "java/lang/IndexOutOfBoundsException" then some (1, u) else none)))
abbrev rmL_middle : Room := { frames := 8, cells := 3, slots := 18, locals := 133 }

def f_L_halvings (u : SH) (a1 : Int32) (a2 : Int32) : Option (Int32 × SH) := (xh (f_X5_halvings u.1 a1 a2) (fun z1 => some (0, (u.1, (vp_updL u.2 (0 : Int32).toNatClampNeg (z1.toInt64))))) (fun E => (if E = "java/lang/IndexOutOfBoundsException" then some (1, u) else none)))
abbrev rmL_halvings : Room := { frames := 8, cells := 2, slots := 12, locals := 137 }

def f_L_compare (u : SH) (a1 : Int32) (a2 : Int32) : Option (Int32 × SH) := (xh (f_X5_compare u.1 a1 a2) (fun z1 => some (0, (u.1, (vp_updL u.2 (0 : Int32).toNatClampNeg (z1.toInt64))))) (fun E => (if E = "java/lang/IndexOutOfBoundsException" then some (1, u) else none)))
abbrev rmL_compare : Room := { frames := 8, cells := 2, slots := 12, locals := 132 }

def f_L_rank (u : SH) (a1 : Int32) : Option (Int32 × SH) := (xh (f_X5_rank u.1 a1) (fun z1 => some (0, (u.1, (vp_updL u.2 (0 : Int32).toNatClampNeg (z1.toInt64))))) (fun E => (if E = "java/lang/IndexOutOfBoundsException" then some (1, u) else none)))
abbrev rmL_rank : Room := { frames := 8, cells := 1, slots := 6, locals := 133 }

def f_L_scale (u : SH) (a1 : Int32) (a2 : Int32) (a3 : Int32) : Option (Int32 × SH) := (xh (f_X5_scale u.1 a1 a2 a3) (fun z1 => some (0, (z1.2, (vp_updL u.2 (0 : Int32).toNatClampNeg z1.1)))) (fun E => (if E = "java/lang/IndexOutOfBoundsException" then some (1, u) else (if E = "java/lang/IllegalArgumentException" then some (2, u) else none))))
abbrev rmL_scale : Room := { frames := 8, cells := 3, slots := 18, locals := 135 }

def f_L_isKept (u : SH) (a1 : Int32) (a2 : Int32) : Option (Int32 × SH) := (xh (f_X5_isKept u.1 a1 a2) (fun z1 => (if z1 = false then some (0, (u.1, (vp_updL u.2 (0 : Int32).toNatClampNeg 0))) else some (0, (u.1, (vp_updL u.2 (0 : Int32).toNatClampNeg 1))))) (fun E => (if E = "java/lang/IndexOutOfBoundsException" then some (1, u) else (if E = "java/lang/IllegalArgumentException" then some (2, u) else none))))
abbrev rmL_isKept : Room := { frames := 8, cells := 2, slots := 12, locals := 136 }

def f_L_isOne (u : SH) (a1 : Int32) (a2 : Int32) (a3 : Int32) : Option (Int32 × SH) := (xh (f_X5_isOne u.1 a1 a2 a3) (fun z1 => (if z1 = false then some (0, (u.1, (vp_updL u.2 (0 : Int32).toNatClampNeg 0))) else some (0, (u.1, (vp_updL u.2 (0 : Int32).toNatClampNeg 1))))) (fun E => (if E = "java/lang/IndexOutOfBoundsException" then some (1, u) else (if E = "java/lang/IllegalArgumentException" then some (2, u) else none))))
abbrev rmL_isOne : Room := { frames := 8, cells := 3, slots := 18, locals := 137 }

def f_L_exponent (u : SH) (a1 : Int32) : Option (Int32 × SH) := (xh (f_X5_exponent u.1 a1) (fun z1 => some (0, (u.1, (vp_updL u.2 (0 : Int32).toNatClampNeg (z1.toInt64))))) (fun E => (if E = "java/lang/IndexOutOfBoundsException" then some (1, u) else none)))
abbrev rmL_exponent : Room := { frames := 8, cells := 1, slots := 6, locals := 131 }

def f_L_unit (u : SH) (a1 : Int32) (a2 : Int32) : Option (Int32 × SH) := (xh (f_X5_unit u.1 a1 a2) (fun z1 => some (0, (z1.2, (vp_updL u.2 (0 : Int32).toNatClampNeg z1.1)))) (fun E => (if E = "java/lang/IndexOutOfBoundsException" then some (1, u) else none)))
abbrev rmL_unit : Room := { frames := 8, cells := 2, slots := 12, locals := 132 }

def f_L_lead (u : SH) (a1 : Int32) : Option (Int32 × SH) := (xh (f_X5_lead u.1 a1) (fun z1 => some (0, (u.1, (vp_updL u.2 (0 : Int32).toNatClampNeg (z1.toInt64))))) (fun E => (if E = "java/lang/IndexOutOfBoundsException" then some (1, u) else (if E = "java/lang/ArithmeticException" then some (2, u) else none))))
abbrev rmL_lead : Room := { frames := 8, cells := 2, slots := 12, locals := 132 }

def f_L_tail (u : SH) (a1 : Int32) : Option (Int32 × SH) := (xh (f_X5_tail u.1 a1) (fun z1 => some (0, (u.1, (vp_updL u.2 (0 : Int32).toNatClampNeg (z1.toInt64))))) (fun E => (if E = "java/lang/IndexOutOfBoundsException" then some (1, u) else (if E = "java/lang/ArithmeticException" then some (2, u) else none))))
abbrev rmL_tail : Room := { frames := 8, cells := 2, slots := 12, locals := 132 }

def f_L_power (u : SH) (a1 : Int32) (a2 : Int32) : Option (Int32 × SH) := (xh (f_X5_power u.1 a1 a2) (fun z1 => some (0, (z1.2, (vp_updL u.2 (0 : Int32).toNatClampNeg z1.1)))) (fun E => (if E = "java/lang/IndexOutOfBoundsException" then some (1, u) else (if E = "java/lang/ArithmeticException" then some (2, u) else none))))
abbrev rmL_power : Room := { frames := 8, cells := 3, slots := 18, locals := 133 }

def f_L_grains (u : SH) (a1 : Int32) (a2 : Int32) : Option (Int32 × SH) := (xh (f_X5_grains u.1 a1 a2) (fun z1 => some (0, (u.1, (vp_updL u.2 (0 : Int32).toNatClampNeg (z1.toInt64))))) (fun E => (if E = "java/lang/IndexOutOfBoundsException" then some (1, u) else (if E = "java/lang/IllegalArgumentException" then some (2, u) else (if E = "java/lang/IllegalStateException" then some (3, u) else none)))))
abbrev rmL_grains : Room := { frames := 8, cells := 3, slots := 18, locals := 134 }

def f_L_gap (u : SH) (a1 : Int32) (a2 : Int32) (a3 : Int32) : Option (Int32 × SH) := (xh (f_X5_gap u.1 a1 a2 a3) (fun z1 => some (0, (u.1, (vp_updL u.2 (0 : Int32).toNatClampNeg (z1.toInt64))))) (fun E => (if E = "java/lang/IndexOutOfBoundsException" then some (1, u) else (if E = "java/lang/IllegalArgumentException" then some (2, u) else (if E = "java/lang/IllegalStateException" then some (3, u) else none)))))
abbrev rmL_gap : Room := { frames := 8, cells := 5, slots := 30, locals := 139 }

def f_L_compareGaps (u : SH) (a1 : Int32) (a2 : Int32) (a3 : Int32) (a4 : Int32) : Option (Int32 × SH) := (xh (f_X5_compareGaps u.1 a1 a2 a3 a4) (fun z1 => some (0, (u.1, (vp_updL u.2 (0 : Int32).toNatClampNeg (z1.toInt64))))) (fun E => (if E = "java/lang/IndexOutOfBoundsException" then some (1, u) else (if E = "java/lang/IllegalStateException" then some (2, u) else none))))
abbrev rmL_compareGaps : Room := { frames := 8, cells := 8, slots := 48, locals := 155 }

def f_L_say (u : SH) (a1 : Int32) (a2 : Int32) : Option (Int32 × SH) := (xh (f_X5_say u.1 a1 a2) (fun z1 => some (0, (z1.2, (vp_updL u.2 (0 : Int32).toNatClampNeg (z1.1.toInt64))))) (fun E => (if E = "java/lang/IllegalArgumentException" then some (1, u) else (if E = "java/lang/IllegalStateException" then some (2, u) else none))))
abbrev rmL_say : Room := { frames := 7, cells := 1, slots := 6, locals := 112 }

def f_L_play (u : SH) (a1 : Int32) (a2 : Int32) : Option (Int32 × SH) := (xh (f_X5_play u.1 a1 a2) (fun z1 => some (0, (z1.2, (vp_updL u.2 (0 : Int32).toNatClampNeg z1.1)))) (fun E => (if E = "java/lang/IndexOutOfBoundsException" then some (1, u) else none)))
abbrev rmL_play : Room := { frames := 8, cells := 2, slots := 12, locals := 160 }

def f_L_playBack (u : SH) (a1 : Int32) (a2 : Int32) : Option (Int32 × SH) := (xh (f_X5_playBack u.1 a1 a2) (fun z1 => some (0, (z1.2, (vp_updL u.2 (0 : Int32).toNatClampNeg z1.1)))) (fun E => (if E = "java/lang/IndexOutOfBoundsException" then some (1, u) else none)))
abbrev rmL_playBack : Room := { frames := 8, cells := 2, slots := 12, locals := 160 }

def f_L_isHome (u : SH) (a1 : Int32) : Option (Int32 × SH) := (xh (f_X5_isHome u.1 a1) (fun z1 => (if z1 = false then some (0, (u.1, (vp_updL u.2 (0 : Int32).toNatClampNeg 0))) else some (0, (u.1, (vp_updL u.2 (0 : Int32).toNatClampNeg 1))))) (fun E => (if E = "java/lang/IndexOutOfBoundsException" then some (1, u) else none)))
abbrev rmL_isHome : Room := { frames := 8, cells := 1, slots := 6, locals := 181 }

def f_L_losses (u : SH) (a1 : Int32) : Option (Int32 × SH) := (xh (f_X5_losses u.1 a1) (fun z1 => some (0, (u.1, (vp_updL u.2 (0 : Int32).toNatClampNeg (z1.toInt64))))) (fun E => (if E = "java/lang/IndexOutOfBoundsException" then some (1, u) else none)))
abbrev rmL_losses : Room := { frames := 8, cells := 1, slots := 6, locals := 162 }

def f_L_undo (u : SH) : Option (Int32 × SH) := (xh (f_X5_undo u.1) (fun z1 => some (0, (z1.2, (vp_updL u.2 (0 : Int32).toNatClampNeg (z1.1.toInt64))))) (fun E => (if E = "java/util/NoSuchElementException" then some (1, u) else none)))
abbrev rmL_undo : Room := { frames := 7, cells := 1, slots := 6, locals := 111 }
