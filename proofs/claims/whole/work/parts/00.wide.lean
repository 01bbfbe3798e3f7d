/-! this proof needs the whole library (part 45: arrays of rows): said here first, so that a round on a new machine finds it out at its first part -/
noncomputable abbrev qw_outer := @Jvm.Free.Multi.outerC
