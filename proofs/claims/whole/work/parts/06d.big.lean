theorem ax_okb152_27 : (List.range' 1080 40).all (fun i => match ax_at 152 i with | some o => ax_okI 152 i o | none => false) = true := by decide +kernel
theorem ax_okb152_28 : (List.range' 1120 40).all (fun i => match ax_at 152 i with | some o => ax_okI 152 i o | none => false) = true := by decide +kernel
theorem ax_okb152_29 : (List.range' 1160 40).all (fun i => match ax_at 152 i with | some o => ax_okI 152 i o | none => false) = true := by decide +kernel
theorem ax_okb152_30 : (List.range' 1200 40).all (fun i => match ax_at 152 i with | some o => ax_okI 152 i o | none => false) = true := by decide +kernel
theorem ax_okb152_31 : (List.range' 1240 40).all (fun i => match ax_at 152 i with | some o => ax_okI 152 i o | none => false) = true := by decide +kernel
theorem ax_okb152_32 : (List.range' 1280 35).all (fun i => match ax_at 152 i with | some o => ax_okI 152 i o | none => false) = true := by decide +kernel
