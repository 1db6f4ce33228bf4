theorem z_wide (v : Int64) : FP.Core.DFin (FP.l2d v) := FP.Core.l2d_fin v
