noncomputable def wd_fill := @Jvm.Free.Multi.fill
