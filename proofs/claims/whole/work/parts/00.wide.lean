theorem wd_0 {x : UInt64} (h : FP.Core.dIsNaN x = false) : FP.Core.dcmp x x = some .eq := FP.Core.dcmp_self h
