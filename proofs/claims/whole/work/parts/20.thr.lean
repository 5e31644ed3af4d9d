theorem tx_84_1 : ∀ w ∈ (vx_atS RX7 84 "java/lang/IllegalArgumentException" g_nms).filter goodWord, w ∈ lw_tbl := by decide +kernel
theorem tx_84_2 : ∀ w ∈ (vx_atS RX7 84 "java/lang/IllegalArgumentException" g_nms).filter (fun w => !goodWord w), w ∈ g_ng := by decide +kernel
theorem tx_84_80_3 : ∀ w ∈ Cond.classLink RX7 80 "java/lang/IllegalArgumentException" :: Cond.initialized "java/lang/IllegalArgumentException" :: vx_atS RX7 84 "java/lang/IllegalArgumentException" g_nms, vx_ot w = true := by decide +kernel
theorem tx_94_1 : ∀ w ∈ (vx_atS RX7 94 "java/lang/IllegalStateException" g_nms).filter goodWord, w ∈ lw_tbl := by decide +kernel
theorem tx_94_2 : ∀ w ∈ (vx_atS RX7 94 "java/lang/IllegalStateException" g_nms).filter (fun w => !goodWord w), w ∈ g_ng := by decide +kernel
theorem tx_94_90_3 : ∀ w ∈ Cond.classLink RX7 90 "java/lang/IllegalStateException" :: Cond.initialized "java/lang/IllegalStateException" :: vx_atS RX7 94 "java/lang/IllegalStateException" g_nms, vx_ot w = true := by decide +kernel
theorem tx_135_1 : ∀ w ∈ ((gAt RX7 135).filter vx_no).filter goodWord, w ∈ lw_tbl := by decide +kernel
theorem tx_135_2 : ∀ w ∈ ((gAt RX7 135).filter vx_no).filter (fun w => !goodWord w), w ∈ g_ng := by decide +kernel
theorem tx_135_131_3 : ∀ w ∈ Cond.classLink RX7 131 gN_ :: Cond.initialized gN_ :: (gAt RX7 135).filter vx_no, vx_ot w = true := by decide +kernel
theorem tx_255_1 : ∀ w ∈ (vx_atS RX7 255 "java/lang/IndexOutOfBoundsException" g_nms).filter goodWord, w ∈ lw_tbl := by decide +kernel
theorem tx_255_2 : ∀ w ∈ (vx_atS RX7 255 "java/lang/IndexOutOfBoundsException" g_nms).filter (fun w => !goodWord w), w ∈ g_ng := by decide +kernel
theorem tx_255_251_3 : ∀ w ∈ Cond.classLink RX7 251 "java/lang/IndexOutOfBoundsException" :: Cond.initialized "java/lang/IndexOutOfBoundsException" :: vx_atS RX7 255 "java/lang/IndexOutOfBoundsException" g_nms, vx_ot w = true := by decide +kernel
def gRb (n : Int32) : Nat := max 1 (2 * n.toNatClampNeg - 1)
