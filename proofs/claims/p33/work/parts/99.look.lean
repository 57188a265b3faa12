section ZZ
theorem zz_look : True := trivial
end ZZ
