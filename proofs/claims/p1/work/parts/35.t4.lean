theorem lw_st {l : Launch} (hflags : l.flags = flags0) : l.stackTraces = false := by unfold Launch.stackTraces; rw [hflags]; decide +kernel
