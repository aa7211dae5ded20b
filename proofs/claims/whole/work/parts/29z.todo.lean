/-! still owed -/
theorem ok_grains {v : SH} {w : StM} (h : Rel v.1 w) (a1 a2 : Int32) : Ok Int32.toInt64 (f_L_grains v a1 a2) (f_X6_grains w a1 a2) := sorry
theorem ok_gap {v : SH} {w : StM} (h : Rel v.1 w) (a1 a2 a3 : Int32) : Ok Int32.toInt64 (f_L_gap v a1 a2 a3) (f_X6_gap w a1 a2 a3) := sorry
theorem ok_compareGaps {v : SH} {w : StM} (h : Rel v.1 w) (a1 a2 a3 a4 : Int32) : Ok Int32.toInt64 (f_L_compareGaps v a1 a2 a3 a4) (f_X6_compareGaps w a1 a2 a3 a4) := sorry
theorem ok_meanExponent {v : SH} {w : StM} (h : Rel v.1 w) : ∃ (zH : UInt64) (zM : UInt64 × StM), f_X5_meanExponent v.1 = some zH ∧ f_X6_meanExponent w = some zM ∧ vf_n64 zH ∧ Op.cmpValue (FP.dcmp zH zM.1) .l = 0 ∧ zH = zM.1 ∧ Rel v.1 zM.2 := sorry
theorem ok_share {v : SH} {w : StM} (h : Rel v.1 w) : ∃ (zH : UInt32) (zM : UInt32 × StM), f_X5_share v.1 = some zH ∧ f_X6_share w = some zM ∧ vf_n64 (FP.f2d zH) ∧ Op.cmpValue (FP.dcmp (FP.f2d zH) (FP.f2d zM.1)) .l = 0 ∧ zH = zM.1 ∧ Rel v.1 zM.2 := sorry
theorem ok_isSound {v : SH} {w : StM} (h : Rel v.1 w) : ∃ (zH : Bool) (zM : Bool × StM), f_X5_isSound v.1 = some zH ∧ f_X6_isSound w = some zM ∧ b2i zH = b2i zM.1 ∧ Rel v.1 zM.2 := sorry
