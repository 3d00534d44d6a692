/-! The library's rest is wanted from the first part on (the rows on exceptions name it). -/
theorem wd_0 : True := by
  have h1 := @RowPassed
  trivial
