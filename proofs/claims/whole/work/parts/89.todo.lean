/-! what is still owed of single calls -/
